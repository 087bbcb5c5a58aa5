/-! ===== a site as a row of 34 numbers (0 there, 1 egg, 2 bed, 3 rain, 4 hour, 5 deeds, 6 done, 7 .. 9 heights, 10 .. 12 softs, 13 + 3 d kind, foot, amount), and what is done to it ===== -/
def u1 (f : Int → Int) (i v : Int) : Int → Int := fun j => if j = i then v else f j
def mSide (f : Int → Int) : Int := f 7 - f 8
def mMid (f : Int → Int) : Int := (f 7 + f 8) / 2
def mAlong (f : Int → Int) : Int := f 9 - mMid f
def mOff (v : Int) : Int := if v < 0 then -v else v
def mAwry (f : Int → Int) : Int := mOff (mSide f) + mOff (mAlong f)
abbrev mLevel (f : Int → Int) : Prop := mOff (mSide f) ≤ f 1 ∧ mOff (mAlong f) ≤ f 2
def mClamp (x : Int) : Int := if x < 0 then 0 else if 99 < x then 99 else x
def mLift (f : Int → Int) (i b : Int) : Int → Int := u1 f (7 + i) (mClamp (f (7 + i) + b))
def mSoft (f : Int → Int) (i : Int) : Int → Int := u1 f (10 + i) (if f (10 + i) < 9 then f (10 + i) + 1 else f (10 + i))
def mWind (f : Int → Int) (b : Int) : Int → Int := mLift f 2 (if mAlong f < 0 then b else -b)
def mSwap (f : Int → Int) : Int → Int := fun j => if j = 7 then f 8 else if j = 8 then f 7 else if j = 10 then f 11 else if j = 11 then f 10 else f j
def mAct (f : Int → Int) (kind foot amount : Int) : Int → Int :=
  if kind = 1 then mLift f foot amount else if kind = 2 then mLift f foot (amount / 2 + 1) else if kind = 3 then mSoft (mLift f foot amount) foot else if kind = 4 then mWind f amount else mWind (mSwap f) (amount / 2)
def mRain (f : Int → Int) : Int → Int := mLift (mLift (mLift f 0 (-(f 10))) 1 (-(f 11))) 2 (-(f 12))
def mHour (f : Int → Int) : Int → Int := u1 (if f 4 % f 3 = 0 then mRain f else f) 4 (f 4 + 1)
/-- heights 0 to 99, softs 0 to 9 -/
def mOk (f : Int → Int) : Prop := (0 ≤ f 7 ∧ f 7 ≤ 99) ∧ (0 ≤ f 8 ∧ f 8 ≤ 99) ∧ (0 ≤ f 9 ∧ f 9 ≤ 99) ∧ (0 ≤ f 10 ∧ f 10 ≤ 9) ∧ (0 ≤ f 11 ∧ f 11 ≤ 9) ∧ (0 ≤ f 12 ∧ f 12 ≤ 9)
theorem mOk.h {f : Int → Int} (h : mOk f) {i : Int} (h0 : 0 ≤ i) (h2 : i ≤ 2) : 0 ≤ f (7 + i) ∧ f (7 + i) ≤ 99 := by
  obtain ⟨a, b, c, -⟩ := h
  rcases (show i = 0 ∨ i = 1 ∨ i = 2 by omega) with rfl | rfl | rfl
  · exact a
  · exact b
  · exact c
theorem mOk.s {f : Int → Int} (h : mOk f) {i : Int} (h0 : 0 ≤ i) (h2 : i ≤ 2) : 0 ≤ f (10 + i) ∧ f (10 + i) ≤ 9 := by
  obtain ⟨-, -, -, a, b, c⟩ := h
  rcases (show i = 0 ∨ i = 1 ∨ i = 2 by omega) with rfl | rfl | rfl
  · exact a
  · exact b
  · exact c
theorem mClamp_in (x : Int) : 0 ≤ mClamp x ∧ mClamp x ≤ 99 := by
  unfold mClamp
  split
  · omega
  · split <;> omega
theorem u1_ok {f : Int → Int} {i v : Int} (h : mOk f) (h1 : i = 7 ∨ i = 8 ∨ i = 9 → 0 ≤ v ∧ v ≤ 99) (h2 : i = 10 ∨ i = 11 ∨ i = 12 → 0 ≤ v ∧ v ≤ 9) : mOk (u1 f i v) := by
  obtain ⟨a, b, c, d, e, g⟩ := h
  refine ⟨?_, ?_, ?_, ?_, ?_, ?_⟩ <;> (unfold u1; split <;> omega)
theorem mLift_ok {f : Int → Int} {i b : Int} (h : mOk f) (h0 : 0 ≤ i) (h2 : i ≤ 2) : mOk (mLift f i b) :=
  u1_ok h (fun _ => mClamp_in _) (fun q => by omega)
theorem mSoft_ok {f : Int → Int} {i : Int} (h : mOk f) (h0 : 0 ≤ i) (h2 : i ≤ 2) : mOk (mSoft f i) :=
  u1_ok h (fun q => by omega) (fun _ => by have := h.s h0 h2; split <;> omega)
theorem mWind_ok {f : Int → Int} {b : Int} (h : mOk f) : mOk (mWind f b) := mLift_ok h (by omega) (by omega)
theorem mSwap_ok {f : Int → Int} (h : mOk f) : mOk (mSwap f) := by
  obtain ⟨a, b, c, d, e, g⟩ := h
  exact ⟨b, a, c, e, d, g⟩
theorem mAct_ok {f : Int → Int} {k i a : Int} (h : mOk f) (h0 : 0 ≤ i) (h2 : i ≤ 2) : mOk (mAct f k i a) := by
  unfold mAct
  split
  · exact mLift_ok h h0 h2
  · split
    · exact mLift_ok h h0 h2
    · split
      · exact mSoft_ok (mLift_ok h h0 h2) h0 h2
      · split
        · exact mWind_ok h
        · exact mWind_ok (mSwap_ok h)
theorem mRain_ok {f : Int → Int} (h : mOk f) : mOk (mRain f) := mLift_ok (mLift_ok (mLift_ok h (by omega) (by omega)) (by omega) (by omega)) (by omega) (by omega)
theorem mHour_ok {f : Int → Int} (h : mOk f) : mOk (mHour f) := by
  refine u1_ok ?_ (fun q => by omega) (fun q => by omega)
  split
  · exact mRain_ok h
  · exact h
/-! what of the memory has changed -/
def Fr (σ σ' : qM) (S : List Nat) : Prop := ∀ j, j ∉ S → σ' j = σ j
theorem Fr.rf {σ : qM} {S : List Nat} : Fr σ σ S := fun _ _ => rfl
theorem Fr.tr {σ σ1 σ2 : qM} {S S1 S2 : List Nat} (h1 : Fr σ σ1 S1) (h2 : Fr σ1 σ2 S2) (hs : ∀ j, j ∈ S1 ∨ j ∈ S2 → j ∈ S) : Fr σ σ2 S := fun j hj => by
  rw [h2 j (fun q => hj (hs j (Or.inr q))), h1 j (fun q => hj (hs j (Or.inl q)))]
theorem Fr.tt {σ σ1 σ2 : qM} {S : List Nat} (h1 : Fr σ σ1 S) (h2 : Fr σ1 σ2 S) : Fr σ σ2 S := fun j hj => by rw [h2 j hj, h1 j hj]
theorem Fr.wk {σ σ' : qM} {S S' : List Nat} (h : Fr σ σ' S) (hs : ∀ j ∈ S, j ∈ S') : Fr σ σ' S' := fun j hj => h j (fun q => hj (hs j q))
theorem Fr.up {σ : qM} {k : Nat} {i v : Int} {S : List Nat} (h : k ∈ S) : Fr σ (up σ k i v) S := fun j hj => up_ne (fun q => hj (q ▸ h))
theorem Fr.put {σ : qM} {k : Nat} {f : Int → Int} {S : List Nat} (h : k ∈ S) : Fr σ (put σ k f) S := fun j hj => put_ne (fun q => hj (q ▸ h))
/-! a stance: an object k, its heights k + 1, its softs k + 2 -/
def qSt (k : Nat) : Prop := k ∈ [19, 26, 34, 41, 47, 52, 56, 59, 62, 65, 68, 71, 74, 77]
theorem qSt_sh : ∀ k ∈ [19, 26, 34, 41, 47, 52, 56, 59, 62, 65, 68, 71, 74, 77], qSh k = (0, 5, [some (k + 1), some (k + 2)]) ∧ qSh (k + 1) = (1, 3, []) ∧ qSh (k + 2) = (1, 3, []) := by decide +kernel
def StR (σ : qM) (k : Nat) (f : Int → Int) : Prop := σ (k + 1) 0 = f 7 ∧ σ (k + 1) 1 = f 8 ∧ σ (k + 1) 2 = f 9 ∧ σ (k + 2) 0 = f 10 ∧ σ (k + 2) 1 = f 11 ∧ σ (k + 2) 2 = f 12
theorem StR.h {σ : qM} {k : Nat} {f : Int → Int} (h : StR σ k f) {i : Int} (h0 : 0 ≤ i) (h2 : i ≤ 2) : σ (k + 1) i = f (7 + i) := by
  obtain ⟨a, b, c, -⟩ := h
  rcases (show i = 0 ∨ i = 1 ∨ i = 2 by omega) with rfl | rfl | rfl
  · exact a
  · exact b
  · exact c
theorem StR.s {σ : qM} {k : Nat} {f : Int → Int} (h : StR σ k f) {i : Int} (h0 : 0 ≤ i) (h2 : i ≤ 2) : σ (k + 2) i = f (10 + i) := by
  obtain ⟨-, -, -, a, b, c⟩ := h
  rcases (show i = 0 ∨ i = 1 ∨ i = 2 by omega) with rfl | rfl | rfl
  · exact a
  · exact b
  · exact c
theorem StR.fr {σ σ' : qM} {k : Nat} {f : Int → Int} {S : List Nat} (h : StR σ k f) (hF : Fr σ σ' S) (h1 : k + 1 ∉ S) (h2 : k + 2 ∉ S) : StR σ' k f := by
  unfold StR
  rw [hF _ h1, hF _ h2]
  exact h
theorem StR.lift {σ : qM} {k : Nat} {f : Int → Int} {i b v : Int} (h : StR σ k f) (h0 : 0 ≤ i) (h2 : i ≤ 2) (hv : v = mClamp (f (7 + i) + b)) : StR (up σ (k + 1) i v) k (mLift f i b) := by
  obtain ⟨a1, a2, a3, a4, a5, a6⟩ := h
  subst hv
  unfold StR mLift u1
  rw [up_ne (show k + 2 ≠ k + 1 by omega)]
  simp only [up_same, a1, a2, a3, a4, a5, a6]
  rcases (show i = 0 ∨ i = 1 ∨ i = 2 by omega) with rfl | rfl | rfl <;> simp
theorem StR.soft {σ : qM} {k : Nat} {f : Int → Int} {i v : Int} (h : StR σ k f) (h0 : 0 ≤ i) (h2 : i ≤ 2) : StR (up σ (k + 2) i v) k (u1 f (10 + i) v) := by
  obtain ⟨a1, a2, a3, a4, a5, a6⟩ := h
  unfold StR u1
  rw [up_ne (show k + 1 ≠ k + 2 by omega)]
  simp only [up_same, a1, a2, a3, a4, a5, a6]
  rcases (show i = 0 ∨ i = 1 ∨ i = 2 by omega) with rfl | rfl | rfl <;> simp
/-- the heights and softs alone -/
theorem StR.congr {σ : qM} {k : Nat} {f g : Int → Int} (h : StR σ k f) (e : ∀ j, 7 ≤ j → j ≤ 12 → g j = f j) : StR σ k g := by
  unfold StR
  rw [e 7 (by omega) (by omega), e 8 (by omega) (by omega), e 9 (by omega) (by omega), e 10 (by omega) (by omega), e 11 (by omega) (by omega), e 12 (by omega) (by omega)]
  exact h
