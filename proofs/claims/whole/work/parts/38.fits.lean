/-! ===== who, feet, amounts ===== -/
def mTl (w : Int) (f : Int → Int) : Int := if w = 0 then mSide f else mAlong f
abbrev mSo (h : Int → Int) (w : Int) (told : Int → Int) (n : Nat) : Prop := ∀ t : Nat, t < n → mTl w (mHours (t + 1) h) = told t
def mFt (P : Int → Prop) [DecidablePred P] (lo : Int) : Nat → Int
  | 0 => 0
  | m + 1 => if P (lo + m) then qor (mFt P lo m) (qshl 1 (lo + m)) else mFt P lo m
abbrev fP (f : Int → Int) (deed w by_ : Int) (told : Int → Int) (n : Nat) (v : Int) : Prop := mSo (mDo (u1 f (13 + 3 * deed + by_) v) deed) w told n
def s_fits (A : qA) (by_ lo hi deed w r i n : Int) : Int × qA :=
  if (0 ≤ deed ∧ deed < A.1 5) ∧ (0 ≤ w ∧ w ≤ 1) ∧ (0 ≤ r ∧ r ≤ 7) ∧ (1 ≤ n ∧ n ≤ 12) then
    (if A.2.2.2.2.1.1 r < 0 then (-1000011, aS A 1) else if 0 ≤ i ∧ i + n ≤ A.2.2.2.2.1.2.1 r then
      (if mDone A.1 deed then (-1000002, A) else (mFt (fP A.1 deed w by_ (fun t => A.2.2.2.2.1.2.2 r (i + t)) n.toNat) lo (hi + 1 - lo).toNat, aS A 0)) else (-1000012, aS A 2)) else (-1000001, A)
theorem av_fits {A : qA} (h : AV A) (by_ lo hi deed w r i n : Int) : AV (s_fits A by_ lo hi deed w r i n).2 := by
  unfold s_fits
  repeat' split
  all_goals first | exact h | exact h.st (by omega)
/-- which of the three numbers of a deed is tried, and from where to where -/
def byOk (b lo hi : Int) : Prop := (b = 0 ∧ lo = 1 ∧ hi = 5) ∨ (b = 1 ∧ lo = 0 ∧ hi = 2) ∨ (b = 2 ∧ lo = 1 ∧ hi = 20)
theorem by_row {f : Int → Int} {deed b lo hi v : Int} (hR : Row f) (hd : 0 ≤ deed ∧ deed < f 5) (hb : byOk b lo hi) (hv : lo ≤ v ∧ v ≤ hi) : Row (u1 f (13 + 3 * deed + b) v) := by
  obtain ⟨r1, r2, r3, r4, r5, r6, r7, r8⟩ := hR
  have n : ∀ j, j < 13 → u1 f (13 + 3 * deed + b) v j = f j := fun j hj => u1_ne (by rcases hb with q | q | q <;> omega)
  refine ⟨u1_ok r1 (fun q => by rcases hb with z | z | z <;> omega) (fun q => by rcases hb with z | z | z <;> omega), ?_, ?_, ?_, ?_, ?_, ?_, fun i h0 h1 => ?_⟩
  · rw [n 4 (by omega)]; exact r2
  · rw [n 5 (by omega)]; exact r3
  · rw [n 5 (by omega), n 6 (by omega)]; exact r4
  · rw [n 0 (by omega)]; exact r5
  · rw [n 0 (by omega), n 5 (by omega)]; exact r6
  · rw [n 0 (by omega), n 1 (by omega), n 2 (by omega), n 3 (by omega), n 5 (by omega)]; exact r7
  · rw [n 5 (by omega)] at h1
    have q := r8 i h0 h1
    unfold u1
    rcases hb with z | z | z <;> (refine ⟨?_, ?_, ?_⟩ <;> split <;> omega)
def hiC (g f : Int → Int) : Prop := ∀ j, 7 ≤ j → j ≤ 12 → g j = f j
theorem u1_c {g f : Int → Int} {i v v' : Int} (h : hiC g f) (e : v = v') : hiC (u1 g i v) (u1 f i v') := fun j a b => by
  unfold u1
  split
  · exact e
  · exact h j a b
theorem mLift_c {g f : Int → Int} {i b b' : Int} (h : hiC g f) (h0 : 0 ≤ i) (h2 : i ≤ 2) (hb : b = b') : hiC (mLift g i b) (mLift f i b') := u1_c h (by rw [h (7 + i) (by omega) (by omega), hb])
theorem mSoft_c {g f : Int → Int} {i : Int} (h : hiC g f) (h0 : 0 ≤ i) (h2 : i ≤ 2) : hiC (mSoft g i) (mSoft f i) := u1_c h (by rw [h (10 + i) (by omega) (by omega)])
theorem mSwap_c {g f : Int → Int} (h : hiC g f) : hiC (mSwap g) (mSwap f) := fun j a b => by
  unfold mSwap
  rw [h 7 (by omega) (by omega), h 8 (by omega) (by omega), h 10 (by omega) (by omega), h 11 (by omega) (by omega), h j a b]
theorem mAlong_c {g f : Int → Int} (h : hiC g f) : mAlong g = mAlong f := by
  unfold mAlong mMid
  rw [h 7 (by omega) (by omega), h 8 (by omega) (by omega), h 9 (by omega) (by omega)]
theorem mWind_c {g f : Int → Int} {b : Int} (h : hiC g f) : hiC (mWind g b) (mWind f b) := mLift_c h (by omega) (by omega) (by rw [mAlong_c h])
theorem mAct_c {g f : Int → Int} {k i a : Int} (h : hiC g f) (h0 : 0 ≤ i) (h2 : i ≤ 2) : hiC (mAct g k i a) (mAct f k i a) := by
  unfold mAct
  split
  · exact mLift_c h h0 h2 rfl
  · split
    · exact mLift_c h h0 h2 rfl
    · split
      · exact mSoft_c (mLift_c h h0 h2 rfl) h0 h2
      · split
        · exact mWind_c h
        · exact mWind_c (mSwap_c h)
theorem by_act {f : Int → Int} {deed b v : Int} {j : Int} (h0 : 0 ≤ deed) (hf : 0 ≤ u1 f (13 + 3 * deed + b) v (14 + 3 * deed) ∧ u1 f (13 + 3 * deed + b) v (14 + 3 * deed) ≤ 2) (hb : 0 ≤ b ∧ b ≤ 2) (hj : 7 ≤ j ∧ j ≤ 12) : mDo (u1 f (13 + 3 * deed + b) v) deed j = mAct f (u1 f (13 + 3 * deed + b) v (13 + 3 * deed)) (u1 f (13 + 3 * deed + b) v (14 + 3 * deed)) (u1 f (13 + 3 * deed + b) v (15 + 3 * deed)) j := by
  unfold mDo
  rw [u1_ne (by omega)]
  generalize u1 f (13 + 3 * deed + b) v (13 + 3 * deed) = x
  generalize u1 f (13 + 3 * deed + b) v (14 + 3 * deed) = y at hf
  generalize u1 f (13 + 3 * deed + b) v (15 + 3 * deed) = z
  have n : ∀ j, j < 13 → u1 f (13 + 3 * deed + b) v j = f j := fun j hj => u1_ne (by omega)
  exact mAct_c (fun j a b => n j (by omega)) hf.1 hf.2 j hj.1 hj.2
theorem mHours_hi {f g : Int → Int} (h3 : g 3 = f 3) (h4 : g 4 = f 4) (h : ∀ j, 7 ≤ j → j ≤ 12 → g j = f j) : ∀ n : Nat, (∀ j, 7 ≤ j → j ≤ 12 → mHours n g j = mHours n f j) ∧ mHours n g 3 = mHours n f 3 ∧ mHours n g 4 = mHours n f 4
  | 0 => ⟨h, h3, h4⟩
  | n + 1 => by
    obtain ⟨ih, i3, i4⟩ := mHours_hi h3 h4 h n
    refine ⟨fun j a b => ?_, ?_, ?_⟩
    · show mHour (mHours n g) j = mHour (mHours n f) j
      unfold mHour mRain mLift u1
      simp only [i3, i4, show ¬ j = 4 by omega, if_false]
      split
      · simp only [ih 7 (by omega) (by omega), ih 8 (by omega) (by omega), ih 9 (by omega) (by omega), ih 10 (by omega) (by omega), ih 11 (by omega) (by omega), ih 12 (by omega) (by omega), ih j a b, show (7 : Int) + 0 = 7 from rfl, show (7 : Int) + 1 = 8 from rfl, show (7 : Int) + 2 = 9 from rfl]
      · exact ih j a b
    · show mHour (mHours n g) 3 = mHour (mHours n f) 3
      rw [mHour_o _ (by omega), mHour_o _ (by omega)]; exact i3
    · show mHour (mHours n g) 4 = mHour (mHours n f) 4
      rw [mHour_4, mHour_4, i4]
theorem mTl_hi {f g : Int → Int} {w : Int} (h : ∀ j, 7 ≤ j → j ≤ 12 → g j = f j) : mTl w g = mTl w f := by
  unfold mTl mSide mAlong mMid
  rw [h 7 (by omega) (by omega), h 8 (by omega) (by omega), h 9 (by omega) (by omega)]
theorem qor_0 {x : Int} (h : -2147483648 ≤ x ∧ x ≤ 2147483647) : qor x 0 = x := by
  unfold qor
  have e : (Int32.ofInt x ||| Int32.ofInt 0) = Int32.ofInt x := by
    rw [show Int32.ofInt 0 = 0 from rfl]
    exact Int32.or_zero
  rw [e]
  exact Int32.toInt_ofInt_of_le (by omega) (by omega)
theorem mFt_in (P : Int → Prop) [DecidablePred P] (lo : Int) : ∀ m, -2147483648 ≤ mFt P lo m ∧ mFt P lo m ≤ 2147483647
  | 0 => ⟨by show (-2147483648 : Int) ≤ 0; omega, by show (0 : Int) ≤ 2147483647; omega⟩
  | m + 1 => by
    unfold mFt
    split
    · exact qor_in _ _
    · exact mFt_in P lo m
section T2
variable {G : qGl} {d : Nat} {σ : qM} {A : qA} {f g : Int → Int}
theorem x_tryWith {deed b lo hi v : Int} (hs : SiR σ 15 f) (hR : Row f) (hd : 0 ≤ deed ∧ deed < f 5) (hb : byOk b lo hi) (hv : lo ≤ v ∧ v ≤ hi) : qE G mX2_tryWith (d + 4) 0 [(0, vr 46), (1, vr 15), (2, vi deed), (3, vi b), (4, vi v)] [] σ (rv fun σ1 => Fr σ σ1 [48, 49] ∧ StR σ1 47 (mDo (u1 f (13 + 3 * deed + b) v) deed)) := by
  have hS : StR σ 19 f := hs.2.2.1
  have h5 := hR.de
  have hD := hs.2.2.2 deed hd.1 hd.2
  have hk := hR.d hd.1 hd.2
  have hRv := by_row hR hd hb hv
  have hkv := hRv.d hd.1 (by rw [u1_ne (by rcases hb with q | q | q <;> omega)]; exact hd.2)
  have hb3 : b = 0 ∨ b = 1 ∨ b = 2 := by rcases hb with q | q | q <;> omega
  rcases hb3 with q | q | q
  · have hv' : 1 ≤ v ∧ v ≤ 5 := by rcases hb with z | z | z <;> omega
    subst q
    have hkf := hkv.2.1
    refine q_aload_n (pc := 0) dX2_tryWith_0 rfl ?_
    refine q_getR (pc := 1) dX2_tryWith_1 fX2_12 rfl rfl ?_
    refine q_aload_n (pc := 4) dX2_tryWith_4 rfl ?_
    refine q_getR (pc := 5) dX2_tryWith_5 fX2_50 rfl rfl ?_
    refine q_V1v (pc := 8) dX2_tryWith_8 vX2_42 rfl rfl (Nat.le_of_ble_eq_true rfl) (Nat.le_of_ble_eq_true rfl) (t_X5_copyFrom st47 st19 hS) (fun σ1 hc1 => ?_)
    obtain ⟨hF1, hS1⟩ := hc1
    have k1 : σ1 16 deed = f (13 + 3 * deed) := by rw [hF1 16 (by simp)]; exact hD.1
    have k2 : σ1 17 deed = f (14 + 3 * deed) := by rw [hF1 17 (by simp)]; exact hD.2.1
    have k3 : σ1 18 deed = f (15 + 3 * deed) := by rw [hF1 18 (by simp)]; exact hD.2.2
    refine q_aload_n (pc := 11) dX2_tryWith_11 rfl ?_
    refine q_getR (pc := 12) dX2_tryWith_12 fX2_12 rfl rfl ?_
    refine q_iload_n (pc := 15) dX2_tryWith_15 rfl ?_
    refine q_ifne (pc := 16) (tgt := 24) dX2_tryWith_16 (by decide) (by omega) (fun h => absurd h (by omega)) (fun h16 => ?_)
    refine q_iload (pc := 19) dX2_tryWith_19 rfl ?_
    refine q_goto (pc := 21) (tgt := 30) dX2_tryWith_21 (by decide) ?_
    refine q_iload_n (pc := 30) dX2_tryWith_30 rfl ?_
    refine q_iconst (pc := 31) dX2_tryWith_31 ?_
    refine q_icmpne (pc := 32) (tgt := 40) dX2_tryWith_32 (by decide) (by omega) (by omega) (fun h32 => ?_) (fun h => absurd h (by omega))
    refine q_aload_n (pc := 40) dX2_tryWith_40 rfl ?_
    refine q_getR (pc := 41) dX2_tryWith_41 fX2_128 rfl rfl ?_
    refine q_iload_n (pc := 44) dX2_tryWith_44 rfl ?_
    refine q_iald (pc := 45) dX2_tryWith_45 rfl (by omega) ?_
    refine q_iload_n (pc := 46) dX2_tryWith_46 rfl ?_
    refine q_iconst (pc := 47) dX2_tryWith_47 ?_
    refine q_icmpne (pc := 48) (tgt := 56) dX2_tryWith_48 (by decide) (by omega) (by omega) (fun h48 => ?_) (fun h => absurd h (by omega))
    refine q_aload_n (pc := 56) dX2_tryWith_56 rfl ?_
    refine q_getR (pc := 57) dX2_tryWith_57 fX2_131 rfl rfl ?_
    refine q_iload_n (pc := 60) dX2_tryWith_60 rfl ?_
    refine q_iald (pc := 61) dX2_tryWith_61 rfl (by omega) ?_
    refine q_V3v (pc := 62) dX2_tryWith_62 vX2_134 rfl rfl (Nat.le_of_ble_eq_true rfl) (Nat.le_of_ble_eq_true rfl) (t_X5_enact st47 hS1 hR.1 (by omega) (by omega) (by omega) (by omega)) (fun σ2 hc2 => ?_)
    obtain ⟨hF2, hS2, hO2⟩ := hc2
    refine q_rv (pc := 65) dX2_tryWith_65 rfl ?_
    refine ⟨(hF1.wk (by simp)).tt (hF2.wk (by simp)), hS2.congr (fun j x y => ?_)⟩
    rw [by_act hd.1 hkf (by omega) ⟨x, y⟩]
    rw [show 13 + 3 * deed + 0 = 13 + 3 * deed by omega, u1_eq, u1_ne (by omega), u1_ne (by omega), k2, k3]
  · have hv' : 0 ≤ v ∧ v ≤ 2 := by rcases hb with z | z | z <;> omega
    subst q
    have hkf := hkv.2.1
    refine q_aload_n (pc := 0) dX2_tryWith_0 rfl ?_
    refine q_getR (pc := 1) dX2_tryWith_1 fX2_12 rfl rfl ?_
    refine q_aload_n (pc := 4) dX2_tryWith_4 rfl ?_
    refine q_getR (pc := 5) dX2_tryWith_5 fX2_50 rfl rfl ?_
    refine q_V1v (pc := 8) dX2_tryWith_8 vX2_42 rfl rfl (Nat.le_of_ble_eq_true rfl) (Nat.le_of_ble_eq_true rfl) (t_X5_copyFrom st47 st19 hS) (fun σ1 hc1 => ?_)
    obtain ⟨hF1, hS1⟩ := hc1
    have k1 : σ1 16 deed = f (13 + 3 * deed) := by rw [hF1 16 (by simp)]; exact hD.1
    have k2 : σ1 17 deed = f (14 + 3 * deed) := by rw [hF1 17 (by simp)]; exact hD.2.1
    have k3 : σ1 18 deed = f (15 + 3 * deed) := by rw [hF1 18 (by simp)]; exact hD.2.2
    refine q_aload_n (pc := 11) dX2_tryWith_11 rfl ?_
    refine q_getR (pc := 12) dX2_tryWith_12 fX2_12 rfl rfl ?_
    refine q_iload_n (pc := 15) dX2_tryWith_15 rfl ?_
    refine q_ifne (pc := 16) (tgt := 24) dX2_tryWith_16 (by decide) (by omega) (fun h16 => ?_) (fun h => absurd h (by omega))
    refine q_aload_n (pc := 24) dX2_tryWith_24 rfl ?_
    refine q_getR (pc := 25) dX2_tryWith_25 fX2_96 rfl rfl ?_
    refine q_iload_n (pc := 28) dX2_tryWith_28 rfl ?_
    refine q_iald (pc := 29) dX2_tryWith_29 rfl (by omega) ?_
    refine q_iload_n (pc := 30) dX2_tryWith_30 rfl ?_
    refine q_iconst (pc := 31) dX2_tryWith_31 ?_
    refine q_icmpne (pc := 32) (tgt := 40) dX2_tryWith_32 (by decide) (by omega) (by omega) (fun h => absurd h (by omega)) (fun h32 => ?_)
    refine q_iload (pc := 35) dX2_tryWith_35 rfl ?_
    refine q_goto (pc := 37) (tgt := 46) dX2_tryWith_37 (by decide) ?_
    refine q_iload_n (pc := 46) dX2_tryWith_46 rfl ?_
    refine q_iconst (pc := 47) dX2_tryWith_47 ?_
    refine q_icmpne (pc := 48) (tgt := 56) dX2_tryWith_48 (by decide) (by omega) (by omega) (fun h48 => ?_) (fun h => absurd h (by omega))
    refine q_aload_n (pc := 56) dX2_tryWith_56 rfl ?_
    refine q_getR (pc := 57) dX2_tryWith_57 fX2_131 rfl rfl ?_
    refine q_iload_n (pc := 60) dX2_tryWith_60 rfl ?_
    refine q_iald (pc := 61) dX2_tryWith_61 rfl (by omega) ?_
    refine q_V3v (pc := 62) dX2_tryWith_62 vX2_134 rfl rfl (Nat.le_of_ble_eq_true rfl) (Nat.le_of_ble_eq_true rfl) (t_X5_enact st47 hS1 hR.1 (by omega) (by omega) (by omega) (by omega)) (fun σ2 hc2 => ?_)
    obtain ⟨hF2, hS2, hO2⟩ := hc2
    refine q_rv (pc := 65) dX2_tryWith_65 rfl ?_
    refine ⟨(hF1.wk (by simp)).tt (hF2.wk (by simp)), hS2.congr (fun j x y => ?_)⟩
    rw [by_act hd.1 hkf (by omega) ⟨x, y⟩]
    rw [show 13 + 3 * deed + 1 = 14 + 3 * deed by omega, u1_eq, u1_ne (by omega), u1_ne (by omega), k1, k3]
  · have hv' : 1 ≤ v ∧ v ≤ 20 := by rcases hb with z | z | z <;> omega
    subst q
    have hkf := hkv.2.1
    refine q_aload_n (pc := 0) dX2_tryWith_0 rfl ?_
    refine q_getR (pc := 1) dX2_tryWith_1 fX2_12 rfl rfl ?_
    refine q_aload_n (pc := 4) dX2_tryWith_4 rfl ?_
    refine q_getR (pc := 5) dX2_tryWith_5 fX2_50 rfl rfl ?_
    refine q_V1v (pc := 8) dX2_tryWith_8 vX2_42 rfl rfl (Nat.le_of_ble_eq_true rfl) (Nat.le_of_ble_eq_true rfl) (t_X5_copyFrom st47 st19 hS) (fun σ1 hc1 => ?_)
    obtain ⟨hF1, hS1⟩ := hc1
    have k1 : σ1 16 deed = f (13 + 3 * deed) := by rw [hF1 16 (by simp)]; exact hD.1
    have k2 : σ1 17 deed = f (14 + 3 * deed) := by rw [hF1 17 (by simp)]; exact hD.2.1
    have k3 : σ1 18 deed = f (15 + 3 * deed) := by rw [hF1 18 (by simp)]; exact hD.2.2
    refine q_aload_n (pc := 11) dX2_tryWith_11 rfl ?_
    refine q_getR (pc := 12) dX2_tryWith_12 fX2_12 rfl rfl ?_
    refine q_iload_n (pc := 15) dX2_tryWith_15 rfl ?_
    refine q_ifne (pc := 16) (tgt := 24) dX2_tryWith_16 (by decide) (by omega) (fun h16 => ?_) (fun h => absurd h (by omega))
    refine q_aload_n (pc := 24) dX2_tryWith_24 rfl ?_
    refine q_getR (pc := 25) dX2_tryWith_25 fX2_96 rfl rfl ?_
    refine q_iload_n (pc := 28) dX2_tryWith_28 rfl ?_
    refine q_iald (pc := 29) dX2_tryWith_29 rfl (by omega) ?_
    refine q_iload_n (pc := 30) dX2_tryWith_30 rfl ?_
    refine q_iconst (pc := 31) dX2_tryWith_31 ?_
    refine q_icmpne (pc := 32) (tgt := 40) dX2_tryWith_32 (by decide) (by omega) (by omega) (fun h32 => ?_) (fun h => absurd h (by omega))
    refine q_aload_n (pc := 40) dX2_tryWith_40 rfl ?_
    refine q_getR (pc := 41) dX2_tryWith_41 fX2_128 rfl rfl ?_
    refine q_iload_n (pc := 44) dX2_tryWith_44 rfl ?_
    refine q_iald (pc := 45) dX2_tryWith_45 rfl (by omega) ?_
    refine q_iload_n (pc := 46) dX2_tryWith_46 rfl ?_
    refine q_iconst (pc := 47) dX2_tryWith_47 ?_
    refine q_icmpne (pc := 48) (tgt := 56) dX2_tryWith_48 (by decide) (by omega) (by omega) (fun h => absurd h (by omega)) (fun h48 => ?_)
    refine q_iload (pc := 51) dX2_tryWith_51 rfl ?_
    refine q_goto (pc := 53) (tgt := 62) dX2_tryWith_53 (by decide) ?_
    refine q_V3v (pc := 62) dX2_tryWith_62 vX2_134 rfl rfl (Nat.le_of_ble_eq_true rfl) (Nat.le_of_ble_eq_true rfl) (t_X5_enact st47 hS1 hR.1 (by omega) (by omega) (by omega) (by omega)) (fun σ2 hc2 => ?_)
    obtain ⟨hF2, hS2, hO2⟩ := hc2
    refine q_rv (pc := 65) dX2_tryWith_65 rfl ?_
    refine ⟨(hF1.wk (by simp)).tt (hF2.wk (by simp)), hS2.congr (fun j x y => ?_)⟩
    rw [by_act hd.1 hkf (by omega) ⟨x, y⟩]
    rw [show 13 + 3 * deed + 2 = 15 + 3 * deed by omega, u1_eq, u1_ne (by omega), u1_ne (by omega), k1, k2]

theorem bi_t {c : Prop} [Decidable c] (h : c) : bi c = 1 := if_pos h
theorem bi_f {c : Prop} [Decidable c] (h : ¬ c) : bi c = 0 := if_neg h
theorem x_isSo_l {h : Int → Int} {w i n : Int} {k : Nat} {told : Int → Int} (hs0 : SiR σ 15 f) (hR : Row f) (h1 : f 0 = 1) (hS0 : StR σ 47 h) (hO : mOk h) (hh : h 3 = f 3 ∧ h 4 = f 4) (hw : w = 0 ∨ w = 1) (hk : qSh k = (1, 40, [])) (hk2 : k ∉ [53, 54]) (hn : 1 ≤ n ∧ n ≤ 12) (hi : 0 ≤ i ∧ i + n ≤ 40) (ht : ∀ t : Nat, (t : Int) < n → σ k (i + t) = told t) (htr : ∀ t : Nat, (t : Int) < n → -2147483648 ≤ told t ∧ told t ≤ 2147483647) : ∀ (m t : Nat) (σ' : qM), (m : Int) + t = n → Fr σ σ' [53, 54] → (∀ s : Nat, s < t → mTl w (mHours (s + 1) h) = told s) → qE G mX2_isSo (d + 5) 3 [(6, vi t), (0, vr 46), (1, vr 15), (2, vi w), (3, vr k), (4, vi i), (5, vi n)] [] σ' (ri fun r σ1 => bi (mSo h w told n.toNat) = r ∧ Fr σ σ1 [53, 54]) := by
  intro m
  induction m with
  | zero =>
    intro t σ' hm hF hx
    refine q_iload (pc := 3) dX2_isSo_3 rfl ?_
    refine q_iload (pc := 5) dX2_isSo_5 rfl ?_
    refine q_icmpge (pc := 7) (tgt := 45) dX2_isSo_7 (by decide) (by omega) (by omega) (fun h7 => ?_) (fun h => absurd h (by omega))
    refine q_iconst (pc := 45) dX2_isSo_45 ?_
    refine q_rz (pc := 46) dX2_isSo_46 rfl (by first | exact bi_01 _ | omega) ?_
    exact ⟨bi_t (fun s hs => hx s (by omega)), hF⟩
  | succ m ih =>
    intro t σ' hm hF hx
    have hs := hs0.fr hF (fun j a b => by simp; omega)
    have hS := hS0.fr hF (by simp) (by simp)
    have hOt := mHours_ok hO (t + 1)
    have htl : -1000 ≤ mTl w (mHours (t + 1) h) ∧ mTl w (mHours (t + 1) h) ≤ 1000 := by
      obtain ⟨a, b, c, -⟩ := hOt
      unfold mTl mSide mAlong mMid
      split <;> omega
    have et : ∀ τ, Fr σ' τ [53, 54] → τ k (i + t) = told t := fun τ hτ => by rw [hτ k hk2, hF k hk2]; exact ht t (by omega)
    have hrt := htr t (by omega)
    refine q_iload (pc := 3) dX2_isSo_3 rfl ?_
    refine q_iload (pc := 5) dX2_isSo_5 rfl ?_
    refine q_icmpge (pc := 7) (tgt := 45) dX2_isSo_7 (by decide) (by omega) (by omega) (fun h => absurd h (by omega)) (fun h7 => ?_)
    refine q_aload_n (pc := 10) dX2_isSo_10 rfl ?_
    refine q_aload_n (pc := 11) dX2_isSo_11 rfl ?_
    refine q_aload_n (pc := 12) dX2_isSo_12 rfl ?_
    refine q_getR (pc := 13) dX2_isSo_13 fX2_12 rfl rfl ?_
    refine q_iload (pc := 16) dX2_isSo_16 rfl ?_
    refine q_iconst (pc := 18) dX2_isSo_18 ?_
    refine q_iadd (pc := 19) dX2_isSo_19 ?_
    refine q_V3r (pc := 20) dX2_isSo_20 vX2_53 rfl rfl (Nat.le_of_ble_eq_true rfl) (Nat.le_of_ble_eq_true rfl) (t_X2_behindN (n := t + 1) ⟨hs, hR, h1⟩ st47 hS hO hh (by omega)) (fun r1 σ1 hc1 => ?_)
    obtain ⟨rfl, hF1, hS1, hO1⟩ := hc1
    refine q_iload_n (pc := 23) dX2_isSo_23 rfl ?_
    refine q_V1i (pc := 24) dX2_isSo_24 vX2_137 rfl rfl (Nat.le_of_ble_eq_true rfl) (Nat.le_of_ble_eq_true rfl) (t_X5_tilt st52 hS1 hO1 hw) (fun r2 σ2 hc2 => ?_)
    obtain ⟨rfl, rfl⟩ := hc2
    have et' := et _ hF1
    rw [show (if w = 0 then mSide (mHours (t + 1) h) else mAlong (mHours (t + 1) h)) = mTl w (mHours (t + 1) h) from rfl]
    refine q_aload_n (pc := 27) dX2_isSo_27 rfl ?_
    refine q_iload (pc := 28) dX2_isSo_28 rfl ?_
    refine q_iload (pc := 30) dX2_isSo_30 rfl ?_
    refine q_iadd (pc := 32) dX2_isSo_32 ?_
    refine q_iald (pc := 33) dX2_isSo_33 hk (by omega) ?_
    refine q_icmpeq (pc := 34) (tgt := 39) dX2_isSo_34 (by decide) (by omega) (by omega) (fun h34 => ?_) (fun h34 => ?_)
    · refine q_iinc (pc := 39) dX2_isSo_39 rfl (Nat.le_of_ble_eq_true rfl) ?_
      refine q_goto (pc := 42) (tgt := 3) dX2_isSo_42 (by decide) ?_
      exact q_locs _ [0, 1, 2, 3, 4, 5, 6] rfl (ih (t + 1) _ (by omega) (hF.tt hF1) (fun s hs' => by
        by_cases c : s = t
        · subst c; omega
        · exact hx s (by omega)))
    · refine q_iconst (pc := 37) dX2_isSo_37 ?_
      refine q_rz (pc := 38) dX2_isSo_38 rfl (by first | exact bi_01 _ | omega) ?_
      exact ⟨bi_f (fun z => by have := z t (by omega); omega), hF.tt hF1⟩
theorem x_isSo {h : Int → Int} {w i n : Int} {k : Nat} {told : Int → Int} (hs0 : SiR σ 15 f) (hR : Row f) (h1 : f 0 = 1) (hS0 : StR σ 47 h) (hO : mOk h) (hh : h 3 = f 3 ∧ h 4 = f 4) (hw : w = 0 ∨ w = 1) (hk : qSh k = (1, 40, [])) (hk2 : k ∉ [53, 54]) (hn : 1 ≤ n ∧ n ≤ 12) (hi : 0 ≤ i ∧ i + n ≤ 40) (ht : ∀ t : Nat, (t : Int) < n → σ k (i + t) = told t) (htr : ∀ t : Nat, (t : Int) < n → -2147483648 ≤ told t ∧ told t ≤ 2147483647) : qE G mX2_isSo (d + 5) 0 [(0, vr 46), (1, vr 15), (2, vi w), (3, vr k), (4, vi i), (5, vi n)] [] σ (ri fun r σ1 => bi (mSo h w told n.toNat) = r ∧ Fr σ σ1 [53, 54]) := by
  refine q_iconst (pc := 0) dX2_isSo_0 ?_
  refine q_istore (pc := 1) dX2_isSo_1 (Nat.le_of_ble_eq_true rfl) ?_
  exact x_isSo_l hs0 hR h1 hS0 hO hh hw hk hk2 hn hi ht htr n.toNat 0 σ (by omega) Fr.rf (fun s hs => absurd hs (by omega))
theorem tl_eq {f : Int → Int} {deed b v lo hi w : Int} (hR : Row f) (hd : 0 ≤ deed ∧ deed < f 5) (hb : byOk b lo hi) (hv : lo ≤ v ∧ v ≤ hi) : mOk (mDo (u1 f (13 + 3 * deed + b) v) deed) ∧ mDo (u1 f (13 + 3 * deed + b) v) deed 3 = f 3 ∧ mDo (u1 f (13 + 3 * deed + b) v) deed 4 = f 4 := by
  have hRv := by_row hR hd hb hv
  have n : ∀ j, j < 13 → u1 f (13 + 3 * deed + b) v j = f j := fun j hj => u1_ne (by rcases hb with q | q | q <;> omega)
  have hd' : deed < u1 f (13 + 3 * deed + b) v 5 := by rw [n 5 (by omega)]; exact hd.2
  exact ⟨mDo_ok hRv.1 (hRv.d hd.1 hd').2.1, by rw [mDo_o hRv hd.1 hd' (by omega), n 3 (by omega)], by rw [mDo_o hRv hd.1 hd' (by omega), n 4 (by omega)]⟩
theorem x_fits_l {b lo hi deed w r i n : Int} {told : Int → Int} (hC0 : CR σ A) (hV : AV A) (hb : byOk b lo hi) (hd : 0 ≤ deed ∧ deed < A.1 5) (hw : 0 ≤ w ∧ w ≤ 1) (hr : 0 ≤ r ∧ r ≤ 7) (hn : 1 ≤ n ∧ n ≤ 12) (hin : 0 ≤ i ∧ i + n ≤ A.2.2.2.2.1.2.1 r) (htd : told = fun t => A.2.2.2.2.1.2.2 r (i + t)) : ∀ (m k : Nat) (σ' : qM), (m : Int) + k = hi + 1 - lo → Fr σ σ' [48, 49, 53, 54] → qE G mX7_allThatFits (d + 6) 140 [(10, vi (lo + k)), (9, vi (mFt (fP A.1 deed w b told n.toNat) lo k)), (8, vi hi), (0, vr 0), (1, vi b), (2, vi deed), (3, vi w), (4, vi r), (5, vi i), (6, vi n)] [] σ' (ri fun x σ1 => mFt (fP A.1 deed w b told n.toNat) lo (hi + 1 - lo).toNat = x ∧ ∃ σ2, Fr σ σ2 [48, 49, 53, 54] ∧ up σ2 0 9 0 = σ1) := by
  have hbb : 0 ≤ lo ∧ hi ≤ 20 := by rcases hb with q | q | q <;> omega
  have hR := hV.1
  have h5 := hR.de
  have h1 := hR.one hd.1 hd.2
  intro m
  induction m with
  | zero =>
    intro k σ' hm hF
    refine q_iload (pc := 140) dX7_allThatFits_140 rfl ?_
    refine q_iload (pc := 142) dX7_allThatFits_142 rfl ?_
    refine q_icmpgt (pc := 144) (tgt := 206) dX7_allThatFits_144 (by decide) (by omega) (by omega) (fun h144 => ?_) (fun h => absurd h (by omega))
    refine q_aload_n (pc := 206) dX7_allThatFits_206 rfl ?_
    refine q_iload (pc := 207) dX7_allThatFits_207 rfl ?_
    refine q_V1i (pc := 209) dX7_allThatFits_209 vX7_75 rfl rfl (Nat.le_of_ble_eq_true rfl) (Nat.le_of_ble_eq_true rfl) (t_X7_unfound) (fun r1 σ1 hc1 => ?_)
    obtain ⟨rfl, rfl⟩ := hc1
    refine q_ri (pc := 212) dX7_allThatFits_212 rfl ?_
    exact ⟨by rw [show (hi + 1 - lo).toNat = k by omega], σ', hF, rfl⟩
  | succ m ih =>
    intro k σ' hm hF
    have hC := hC0.fr hF (scr_in (by decide))
    have hS := hC.2.2.2.2.1 r hr.1 hr.2
    have hv := hV.2.2.2.2.1 r hr.1 hr.2
    have hv2 := hv.2.1
    have e1 := itm_at r.toNat (by omega)
    have e2 := itm_sh r.toNat (by omega)
    obtain ⟨t1, t2, t3⟩ := tl_eq (w := w) hR hd hb (v := lo + k) (by omega)
    refine q_iload (pc := 140) dX7_allThatFits_140 rfl ?_
    refine q_iload (pc := 142) dX7_allThatFits_142 rfl ?_
    refine q_icmpgt (pc := 144) (tgt := 206) dX7_allThatFits_144 (by decide) (by omega) (by omega) (fun h => absurd h (by omega)) (fun h144 => ?_)
    refine q_aload_n (pc := 147) dX7_allThatFits_147 rfl ?_
    refine q_getR (pc := 148) dX7_allThatFits_148 fX7_47 rfl rfl ?_
    refine q_aload_n (pc := 151) dX7_allThatFits_151 rfl ?_
    refine q_getR (pc := 152) dX7_allThatFits_152 fX7_26 rfl rfl ?_
    refine q_iload_n (pc := 155) dX7_allThatFits_155 rfl ?_
    refine q_iload_n (pc := 156) dX7_allThatFits_156 rfl ?_
    refine q_iload (pc := 157) dX7_allThatFits_157 rfl ?_
    refine q_V4v (pc := 159) dX7_allThatFits_159 vX7_310 rfl rfl (Nat.le_of_ble_eq_true rfl) (Nat.le_of_ble_eq_true rfl) (x_tryWith hC.1 hR hd hb (by omega)) (fun σ1 hc1 => ?_)
    obtain ⟨hF1, hS1⟩ := hc1
    refine q_aload_n (pc := 162) dX7_allThatFits_162 rfl ?_
    refine q_getR (pc := 163) dX7_allThatFits_163 fX7_47 rfl rfl ?_
    refine q_aload_n (pc := 166) dX7_allThatFits_166 rfl ?_
    refine q_getR (pc := 167) dX7_allThatFits_167 fX7_26 rfl rfl ?_
    refine q_iload_n (pc := 170) dX7_allThatFits_170 rfl ?_
    refine q_aload_n (pc := 171) dX7_allThatFits_171 rfl ?_
    refine q_getR (pc := 172) dX7_allThatFits_172 fX7_10 rfl rfl ?_
    refine q_getR (pc := 175) dX7_allThatFits_175 fX7_314 rfl rfl ?_
    refine q_iload (pc := 178) dX7_allThatFits_178 rfl ?_
    refine q_aald (pc := 180) dX7_allThatFits_180 rfl (by decide) (by omega) e1 ?_
    refine q_iload (pc := 181) dX7_allThatFits_181 rfl ?_
    refine q_iload (pc := 183) dX7_allThatFits_183 rfl ?_
    refine q_V5i (pc := 185) dX7_allThatFits_185 vX7_318 rfl rfl (Nat.le_of_ble_eq_true rfl) (Nat.le_of_ble_eq_true rfl) (x_isSo (told := told) (hC.1.fr hF1 (fun j a b => by simp; omega)) hR h1 hS1 t1 ⟨t2, t3⟩ (by omega) e2 (by simp; omega) hn (by omega) (fun t ht => by rw [hF1 _ (by simp; omega), htd]; exact hS.2.2 _ (by omega) (by omega)) (fun t ht => by rw [htd]; exact hv.2.2 _ (by omega) (by omega))) (fun r2 σ2 hc2 => ?_)
    obtain ⟨rfl, hF2⟩ := hc2
    have hFx : Fr σ' σ2 [48, 49, 53, 54] := (hF1.wk (by simp)).tt (hF2.wk (by simp))
    refine q_ifeqb (pc := 188) (tgt := 200) dX7_allThatFits_188 (by decide) (fun h188 => ?_) (fun h188 => ?_)
    · refine q_iinc (pc := 200) dX7_allThatFits_200 rfl (Nat.le_of_ble_eq_true rfl) ?_
      refine q_goto (pc := 203) (tgt := 140) dX7_allThatFits_203 (by decide) ?_
      first
      | (have e : mFt (fP A.1 deed w b told n.toNat) lo (k + 1) = mFt (fP A.1 deed w b told n.toNat) lo k := if_neg (by assumption)
         have q := ih (k + 1) σ2 (by omega) (hF.tt hFx)
         rw [e, show lo + ((k + 1 : Nat) : Int) = lo + k + 1 by omega] at q
         exact q_locs _ [0, 1, 2, 3, 4, 5, 6, 7, 8, 9] rfl q)
      | (have e : mFt (fP A.1 deed w b told n.toNat) lo (k + 1) = qor (mFt (fP A.1 deed w b told n.toNat) lo k) (qshl 1 (lo + k)) := if_pos (by assumption)
         have q := ih (k + 1) σ2 (by omega) (hF.tt hFx)
         rw [e, show lo + ((k + 1 : Nat) : Int) = lo + k + 1 by omega] at q
         exact q_locs _ [0, 1, 2, 3, 4, 5, 6, 7, 8, 9] rfl q)
    · refine q_iload (pc := 191) dX7_allThatFits_191 rfl ?_
      refine q_iconst (pc := 193) dX7_allThatFits_193 ?_
      refine q_iload (pc := 194) dX7_allThatFits_194 rfl ?_
      refine q_ishl (pc := 196) dX7_allThatFits_196 ?_
      refine q_ior (pc := 197) dX7_allThatFits_197 ?_
      refine q_istore (pc := 198) dX7_allThatFits_198 (Nat.le_of_ble_eq_true rfl) ?_
      refine q_iinc (pc := 200) dX7_allThatFits_200 rfl (Nat.le_of_ble_eq_true rfl) ?_
      refine q_goto (pc := 203) (tgt := 140) dX7_allThatFits_203 (by decide) ?_
      first
      | (have e : mFt (fP A.1 deed w b told n.toNat) lo (k + 1) = mFt (fP A.1 deed w b told n.toNat) lo k := if_neg (by assumption)
         have q := ih (k + 1) σ2 (by omega) (hF.tt hFx)
         rw [e, show lo + ((k + 1 : Nat) : Int) = lo + k + 1 by omega] at q
         exact q_locs _ [0, 1, 2, 3, 4, 5, 6, 7, 8, 9] rfl q)
      | (have e : mFt (fP A.1 deed w b told n.toNat) lo (k + 1) = qor (mFt (fP A.1 deed w b told n.toNat) lo k) (qshl 1 (lo + k)) := if_pos (by assumption)
         have q := ih (k + 1) σ2 (by omega) (hF.tt hFx)
         rw [e, show lo + ((k + 1 : Nat) : Int) = lo + k + 1 by omega] at q
         exact q_locs _ [0, 1, 2, 3, 4, 5, 6, 7, 8, 9] rfl q)
theorem x_fits {b lo hi deed w r i n : Int} (hC : CR σ A) (hV : AV A) (hb : byOk b lo hi) (h1 : -2147483648 ≤ deed ∧ deed ≤ 2147483647) (h2 : -2147483648 ≤ w ∧ w ≤ 2147483647) (h3 : -2147483648 ≤ r ∧ r ≤ 2147483647) (h4 : -2147483648 ≤ i ∧ i ≤ 2147483647) (h6 : -2147483648 ≤ n ∧ n ≤ 2147483647) : qE G mX7_allThatFits (d + 6) 0 [(0, vr 0), (1, vi b), (2, vi deed), (3, vi w), (4, vi r), (5, vi i), (6, vi n)] [] σ (ri (pC σ (s_fits A b lo hi deed w r i n))) := by
  rcases hb with ⟨rfl, rfl, rfl⟩ | ⟨rfl, rfl, rfl⟩ | ⟨rfl, rfl, rfl⟩
  · have hb : byOk 0 1 5 := (Or.inl ⟨rfl, rfl, rfl⟩)
    refine q_aload_n (pc := 0) dX7_allThatFits_0 rfl ?_
    refine q_getR (pc := 1) dX7_allThatFits_1 fX7_26 rfl rfl ?_
    refine q_iload_n (pc := 4) dX7_allThatFits_4 rfl ?_
    refine q_V1i (pc := 5) dX7_allThatFits_5 vX7_164 rfl rfl (Nat.le_of_ble_eq_true rfl) (Nat.le_of_ble_eq_true rfl) (t_X4_hasDeed si15 hC.1 hV.1 (by omega)) (fun r1 σ1 hc1 => ?_)
    obtain ⟨rfl, rfl⟩ := hc1
    refine q_ifeqb (pc := 8) (tgt := 43) dX7_allThatFits_8 (by decide) (fun h8 => ?_) (fun h8 => ?_)
    · refine q_ldc (pc := 43) (n := -1000001) kX7_66 dX7_allThatFits_43 ?_
      refine q_ri (pc := 45) dX7_allThatFits_45 rfl ?_
      first
      | (refine ⟨A, ?_, fun _ _ => rfl, hC⟩
         unfold s_fits
         repeat' (first | rw [if_neg (by omega)] | rw [if_pos (by omega)] | rw [if_pos (by assumption)] | rw [if_neg (by assumption)])
         done)
      | (refine ⟨_, ?_, up0_c, hC.st⟩
         unfold s_fits
         repeat' (first | rw [if_neg (by omega)] | rw [if_pos (by omega)] | rw [if_pos (by assumption)] | rw [if_neg (by assumption)])
         first | done | rfl)
    · refine q_iload_n (pc := 11) dX7_allThatFits_11 rfl ?_
      refine q_iconst (pc := 12) dX7_allThatFits_12 ?_
      refine q_iconst (pc := 13) dX7_allThatFits_13 ?_
      refine q_S3i (pc := 14) dX7_allThatFits_14 vX7_62 (Nat.le_of_ble_eq_true rfl) (Nat.le_of_ble_eq_true rfl) (t_X7_isWithin (by omega) (by omega) (by omega)) (fun r2 σ2 hc2 => ?_)
      obtain ⟨rfl, rfl⟩ := hc2
      refine q_ifeqb (pc := 17) (tgt := 43) dX7_allThatFits_17 (by decide) (fun h17 => ?_) (fun h17 => ?_)
      · refine q_ldc (pc := 43) (n := -1000001) kX7_66 dX7_allThatFits_43 ?_
        refine q_ri (pc := 45) dX7_allThatFits_45 rfl ?_
        first
        | (refine ⟨A, ?_, fun _ _ => rfl, hC⟩
           unfold s_fits
           repeat' (first | rw [if_neg (by omega)] | rw [if_pos (by omega)] | rw [if_pos (by assumption)] | rw [if_neg (by assumption)])
           done)
        | (refine ⟨_, ?_, up0_c, hC.st⟩
           unfold s_fits
           repeat' (first | rw [if_neg (by omega)] | rw [if_pos (by omega)] | rw [if_pos (by assumption)] | rw [if_neg (by assumption)])
           first | done | rfl)
      · refine q_aload_n (pc := 20) dX7_allThatFits_20 rfl ?_
        refine q_getR (pc := 21) dX7_allThatFits_21 fX7_10 rfl rfl ?_
        refine q_iload (pc := 24) dX7_allThatFits_24 rfl ?_
        refine q_V1i (pc := 26) dX7_allThatFits_26 vX7_58 rfl rfl (Nat.le_of_ble_eq_true rfl) (Nat.le_of_ble_eq_true rfl) (t_X3_isRow (by omega)) (fun r3 σ3 hc3 => ?_)
        obtain ⟨rfl, rfl⟩ := hc3
        refine q_ifeqb (pc := 29) (tgt := 43) dX7_allThatFits_29 (by decide) (fun h29 => ?_) (fun h29 => ?_)
        · refine q_ldc (pc := 43) (n := -1000001) kX7_66 dX7_allThatFits_43 ?_
          refine q_ri (pc := 45) dX7_allThatFits_45 rfl ?_
          first
          | (refine ⟨A, ?_, fun _ _ => rfl, hC⟩
             unfold s_fits
             repeat' (first | rw [if_neg (by omega)] | rw [if_pos (by omega)] | rw [if_pos (by assumption)] | rw [if_neg (by assumption)])
             done)
          | (refine ⟨_, ?_, up0_c, hC.st⟩
             unfold s_fits
             repeat' (first | rw [if_neg (by omega)] | rw [if_pos (by omega)] | rw [if_pos (by assumption)] | rw [if_neg (by assumption)])
             first | done | rfl)
        · refine q_iload (pc := 32) dX7_allThatFits_32 rfl ?_
          refine q_iconst (pc := 34) dX7_allThatFits_34 ?_
          refine q_bipush (pc := 35) dX7_allThatFits_35 (by decide +kernel) ?_
          refine q_S3i (pc := 37) dX7_allThatFits_37 vX7_62 (Nat.le_of_ble_eq_true rfl) (Nat.le_of_ble_eq_true rfl) (t_X7_isWithin (by omega) (by omega) (by omega)) (fun r4 σ4 hc4 => ?_)
          obtain ⟨rfl, rfl⟩ := hc4
          refine q_ifneb (pc := 40) (tgt := 46) dX7_allThatFits_40 (by decide) (fun h40 => ?_) (fun h40 => ?_)
          · refine q_aload_n (pc := 46) dX7_allThatFits_46 rfl ?_
            refine q_getR (pc := 47) dX7_allThatFits_47 fX7_10 rfl rfl ?_
            refine q_iload (pc := 50) dX7_allThatFits_50 rfl ?_
            refine q_V1i (pc := 52) dX7_allThatFits_52 vX7_78 rfl rfl (Nat.le_of_ble_eq_true rfl) (Nat.le_of_ble_eq_true rfl) (t_X3_isMissing hC.2.2.2.2.1 hV.2.2.2.2.1 (by omega)) (fun r5 σ5 hc5 => ?_)
            obtain ⟨rfl, rfl⟩ := hc5
            refine q_ifeqb (pc := 55) (tgt := 64) dX7_allThatFits_55 (by decide) (fun h55 => ?_) (fun h55 => ?_)
            · refine q_aload_n (pc := 64) dX7_allThatFits_64 rfl ?_
              refine q_getR (pc := 65) dX7_allThatFits_65 fX7_10 rfl rfl ?_
              refine q_iload (pc := 68) dX7_allThatFits_68 rfl ?_
              refine q_iload (pc := 70) dX7_allThatFits_70 rfl ?_
              refine q_iload (pc := 72) dX7_allThatFits_72 rfl ?_
              refine q_V3i (pc := 74) dX7_allThatFits_74 vX7_81 rfl rfl (Nat.le_of_ble_eq_true rfl) (Nat.le_of_ble_eq_true rfl) (t_X3_hasPlaces hC.2.2.2.2.1 hV.2.2.2.2.1 (by omega) (by omega) (by omega)) (fun r6 σ6 hc6 => ?_)
              obtain ⟨rfl, rfl⟩ := hc6
              refine q_ifneb (pc := 77) (tgt := 86) dX7_allThatFits_77 (by decide) (fun h77 => ?_) (fun h77 => ?_)
              · refine q_aload_n (pc := 86) dX7_allThatFits_86 rfl ?_
                refine q_getR (pc := 87) dX7_allThatFits_87 fX7_26 rfl rfl ?_
                refine q_iload_n (pc := 90) dX7_allThatFits_90 rfl ?_
                refine q_V1i (pc := 91) dX7_allThatFits_91 vX7_167 rfl rfl (Nat.le_of_ble_eq_true rfl) (Nat.le_of_ble_eq_true rfl) (t_X4_isDone si15 hC.1) (fun r7 σ7 hc7 => ?_)
                obtain ⟨rfl, rfl⟩ := hc7
                refine q_ifeqb (pc := 94) (tgt := 100) dX7_allThatFits_94 (by decide) (fun h94 => ?_) (fun h94 => ?_)
                · refine q_iload_n (pc := 100) dX7_allThatFits_100 rfl ?_
                  refine q_iconst (pc := 101) dX7_allThatFits_101 ?_
                  refine q_icmpne (pc := 102) (tgt := 109) dX7_allThatFits_102 (by decide) (by omega) (by omega) (fun h102 => ?_) (fun h => absurd h (by omega))
                  refine q_iconst (pc := 109) dX7_allThatFits_109 ?_
                  refine q_istore (pc := 110) dX7_allThatFits_110 (Nat.le_of_ble_eq_true rfl) ?_
                  refine q_iload_n (pc := 112) dX7_allThatFits_112 rfl ?_
                  refine q_ifne (pc := 113) (tgt := 120) dX7_allThatFits_113 (by decide) (by omega) (fun h => absurd h (by omega)) (fun h113 => ?_)
                  refine q_iconst (pc := 116) dX7_allThatFits_116 ?_
                  refine q_goto (pc := 117) (tgt := 131) dX7_allThatFits_117 (by decide) ?_
                  refine q_istore (pc := 131) dX7_allThatFits_131 (Nat.le_of_ble_eq_true rfl) ?_
                  refine q_iconst (pc := 133) dX7_allThatFits_133 ?_
                  refine q_istore (pc := 134) dX7_allThatFits_134 (Nat.le_of_ble_eq_true rfl) ?_
                  refine q_iload (pc := 136) dX7_allThatFits_136 rfl ?_
                  refine q_istore (pc := 138) dX7_allThatFits_138 (Nat.le_of_ble_eq_true rfl) ?_
                  refine q_locs _ [0, 1, 2, 4, 5, 6, 7, 8, 9, 10] rfl (q_mono (fun v σ' h => ?_) (x_fits_l (b := 0) (lo := 1) (hi := 5) hC hV hb (by omega) (by omega) (by omega) (by omega) (by omega) rfl (5 + 1 - 1) 0 σ (by omega) Fr.rf))
                  obtain ⟨x, e1, e2, σ2, e3, e4⟩ := h
                  subst e4
                  refine ⟨x, e1, ?_⟩
                  have e : s_fits A 0 1 5 deed w r i n = (x, aS A 0) := by
                    unfold s_fits
                    rw [if_pos (by omega), if_neg (by omega), if_pos (by omega), if_neg (by assumption), e2]
                  rw [e]
                  exact ⟨_, rfl, fun j hj => by rw [up_ne (by omega), e3.c (by decide) j hj], (hC.fr e3 (scr_in (by decide))).st⟩
                · refine q_ldc (pc := 97) (n := -1000002) kX7_137 dX7_allThatFits_97 ?_
                  refine q_ri (pc := 99) dX7_allThatFits_99 rfl ?_
                  first
                  | (refine ⟨A, ?_, fun _ _ => rfl, hC⟩
                     unfold s_fits
                     repeat' (first | rw [if_neg (by omega)] | rw [if_pos (by omega)] | rw [if_pos (by assumption)] | rw [if_neg (by assumption)])
                     done)
                  | (refine ⟨_, ?_, up0_c, hC.st⟩
                     unfold s_fits
                     repeat' (first | rw [if_neg (by omega)] | rw [if_pos (by omega)] | rw [if_pos (by assumption)] | rw [if_neg (by assumption)])
                     first | done | rfl)
              · refine q_aload_n (pc := 80) dX7_allThatFits_80 rfl ?_
                refine q_iconst (pc := 81) dX7_allThatFits_81 ?_
                refine q_V1i (pc := 82) dX7_allThatFits_82 vX7_67 rfl rfl (Nat.le_of_ble_eq_true rfl) (Nat.le_of_ble_eq_true rfl) (t_X7_found) (fun r8 σ8 hc8 => ?_)
                obtain ⟨rfl, rfl⟩ := hc8
                refine q_ri (pc := 85) dX7_allThatFits_85 rfl ?_
                first
                | (refine ⟨A, ?_, fun _ _ => rfl, hC⟩
                   unfold s_fits
                   repeat' (first | rw [if_neg (by omega)] | rw [if_pos (by omega)] | rw [if_pos (by assumption)] | rw [if_neg (by assumption)])
                   done)
                | (refine ⟨_, ?_, up0_c, hC.st⟩
                   unfold s_fits
                   repeat' (first | rw [if_neg (by omega)] | rw [if_pos (by omega)] | rw [if_pos (by assumption)] | rw [if_neg (by assumption)])
                   first | done | rfl)
            · refine q_aload_n (pc := 58) dX7_allThatFits_58 rfl ?_
              refine q_iconst (pc := 59) dX7_allThatFits_59 ?_
              refine q_V1i (pc := 60) dX7_allThatFits_60 vX7_67 rfl rfl (Nat.le_of_ble_eq_true rfl) (Nat.le_of_ble_eq_true rfl) (t_X7_found) (fun r9 σ9 hc9 => ?_)
              obtain ⟨rfl, rfl⟩ := hc9
              refine q_ri (pc := 63) dX7_allThatFits_63 rfl ?_
              first
              | (refine ⟨A, ?_, fun _ _ => rfl, hC⟩
                 unfold s_fits
                 repeat' (first | rw [if_neg (by omega)] | rw [if_pos (by omega)] | rw [if_pos (by assumption)] | rw [if_neg (by assumption)])
                 done)
              | (refine ⟨_, ?_, up0_c, hC.st⟩
                 unfold s_fits
                 repeat' (first | rw [if_neg (by omega)] | rw [if_pos (by omega)] | rw [if_pos (by assumption)] | rw [if_neg (by assumption)])
                 first | done | rfl)
          · refine q_ldc (pc := 43) (n := -1000001) kX7_66 dX7_allThatFits_43 ?_
            refine q_ri (pc := 45) dX7_allThatFits_45 rfl ?_
            first
            | (refine ⟨A, ?_, fun _ _ => rfl, hC⟩
               unfold s_fits
               repeat' (first | rw [if_neg (by omega)] | rw [if_pos (by omega)] | rw [if_pos (by assumption)] | rw [if_neg (by assumption)])
               done)
            | (refine ⟨_, ?_, up0_c, hC.st⟩
               unfold s_fits
               repeat' (first | rw [if_neg (by omega)] | rw [if_pos (by omega)] | rw [if_pos (by assumption)] | rw [if_neg (by assumption)])
               first | done | rfl)
  · have hb : byOk 1 0 2 := (Or.inr (Or.inl ⟨rfl, rfl, rfl⟩))
    refine q_aload_n (pc := 0) dX7_allThatFits_0 rfl ?_
    refine q_getR (pc := 1) dX7_allThatFits_1 fX7_26 rfl rfl ?_
    refine q_iload_n (pc := 4) dX7_allThatFits_4 rfl ?_
    refine q_V1i (pc := 5) dX7_allThatFits_5 vX7_164 rfl rfl (Nat.le_of_ble_eq_true rfl) (Nat.le_of_ble_eq_true rfl) (t_X4_hasDeed si15 hC.1 hV.1 (by omega)) (fun r1 σ1 hc1 => ?_)
    obtain ⟨rfl, rfl⟩ := hc1
    refine q_ifeqb (pc := 8) (tgt := 43) dX7_allThatFits_8 (by decide) (fun h8 => ?_) (fun h8 => ?_)
    · refine q_ldc (pc := 43) (n := -1000001) kX7_66 dX7_allThatFits_43 ?_
      refine q_ri (pc := 45) dX7_allThatFits_45 rfl ?_
      first
      | (refine ⟨A, ?_, fun _ _ => rfl, hC⟩
         unfold s_fits
         repeat' (first | rw [if_neg (by omega)] | rw [if_pos (by omega)] | rw [if_pos (by assumption)] | rw [if_neg (by assumption)])
         done)
      | (refine ⟨_, ?_, up0_c, hC.st⟩
         unfold s_fits
         repeat' (first | rw [if_neg (by omega)] | rw [if_pos (by omega)] | rw [if_pos (by assumption)] | rw [if_neg (by assumption)])
         first | done | rfl)
    · refine q_iload_n (pc := 11) dX7_allThatFits_11 rfl ?_
      refine q_iconst (pc := 12) dX7_allThatFits_12 ?_
      refine q_iconst (pc := 13) dX7_allThatFits_13 ?_
      refine q_S3i (pc := 14) dX7_allThatFits_14 vX7_62 (Nat.le_of_ble_eq_true rfl) (Nat.le_of_ble_eq_true rfl) (t_X7_isWithin (by omega) (by omega) (by omega)) (fun r2 σ2 hc2 => ?_)
      obtain ⟨rfl, rfl⟩ := hc2
      refine q_ifeqb (pc := 17) (tgt := 43) dX7_allThatFits_17 (by decide) (fun h17 => ?_) (fun h17 => ?_)
      · refine q_ldc (pc := 43) (n := -1000001) kX7_66 dX7_allThatFits_43 ?_
        refine q_ri (pc := 45) dX7_allThatFits_45 rfl ?_
        first
        | (refine ⟨A, ?_, fun _ _ => rfl, hC⟩
           unfold s_fits
           repeat' (first | rw [if_neg (by omega)] | rw [if_pos (by omega)] | rw [if_pos (by assumption)] | rw [if_neg (by assumption)])
           done)
        | (refine ⟨_, ?_, up0_c, hC.st⟩
           unfold s_fits
           repeat' (first | rw [if_neg (by omega)] | rw [if_pos (by omega)] | rw [if_pos (by assumption)] | rw [if_neg (by assumption)])
           first | done | rfl)
      · refine q_aload_n (pc := 20) dX7_allThatFits_20 rfl ?_
        refine q_getR (pc := 21) dX7_allThatFits_21 fX7_10 rfl rfl ?_
        refine q_iload (pc := 24) dX7_allThatFits_24 rfl ?_
        refine q_V1i (pc := 26) dX7_allThatFits_26 vX7_58 rfl rfl (Nat.le_of_ble_eq_true rfl) (Nat.le_of_ble_eq_true rfl) (t_X3_isRow (by omega)) (fun r3 σ3 hc3 => ?_)
        obtain ⟨rfl, rfl⟩ := hc3
        refine q_ifeqb (pc := 29) (tgt := 43) dX7_allThatFits_29 (by decide) (fun h29 => ?_) (fun h29 => ?_)
        · refine q_ldc (pc := 43) (n := -1000001) kX7_66 dX7_allThatFits_43 ?_
          refine q_ri (pc := 45) dX7_allThatFits_45 rfl ?_
          first
          | (refine ⟨A, ?_, fun _ _ => rfl, hC⟩
             unfold s_fits
             repeat' (first | rw [if_neg (by omega)] | rw [if_pos (by omega)] | rw [if_pos (by assumption)] | rw [if_neg (by assumption)])
             done)
          | (refine ⟨_, ?_, up0_c, hC.st⟩
             unfold s_fits
             repeat' (first | rw [if_neg (by omega)] | rw [if_pos (by omega)] | rw [if_pos (by assumption)] | rw [if_neg (by assumption)])
             first | done | rfl)
        · refine q_iload (pc := 32) dX7_allThatFits_32 rfl ?_
          refine q_iconst (pc := 34) dX7_allThatFits_34 ?_
          refine q_bipush (pc := 35) dX7_allThatFits_35 (by decide +kernel) ?_
          refine q_S3i (pc := 37) dX7_allThatFits_37 vX7_62 (Nat.le_of_ble_eq_true rfl) (Nat.le_of_ble_eq_true rfl) (t_X7_isWithin (by omega) (by omega) (by omega)) (fun r4 σ4 hc4 => ?_)
          obtain ⟨rfl, rfl⟩ := hc4
          refine q_ifneb (pc := 40) (tgt := 46) dX7_allThatFits_40 (by decide) (fun h40 => ?_) (fun h40 => ?_)
          · refine q_aload_n (pc := 46) dX7_allThatFits_46 rfl ?_
            refine q_getR (pc := 47) dX7_allThatFits_47 fX7_10 rfl rfl ?_
            refine q_iload (pc := 50) dX7_allThatFits_50 rfl ?_
            refine q_V1i (pc := 52) dX7_allThatFits_52 vX7_78 rfl rfl (Nat.le_of_ble_eq_true rfl) (Nat.le_of_ble_eq_true rfl) (t_X3_isMissing hC.2.2.2.2.1 hV.2.2.2.2.1 (by omega)) (fun r5 σ5 hc5 => ?_)
            obtain ⟨rfl, rfl⟩ := hc5
            refine q_ifeqb (pc := 55) (tgt := 64) dX7_allThatFits_55 (by decide) (fun h55 => ?_) (fun h55 => ?_)
            · refine q_aload_n (pc := 64) dX7_allThatFits_64 rfl ?_
              refine q_getR (pc := 65) dX7_allThatFits_65 fX7_10 rfl rfl ?_
              refine q_iload (pc := 68) dX7_allThatFits_68 rfl ?_
              refine q_iload (pc := 70) dX7_allThatFits_70 rfl ?_
              refine q_iload (pc := 72) dX7_allThatFits_72 rfl ?_
              refine q_V3i (pc := 74) dX7_allThatFits_74 vX7_81 rfl rfl (Nat.le_of_ble_eq_true rfl) (Nat.le_of_ble_eq_true rfl) (t_X3_hasPlaces hC.2.2.2.2.1 hV.2.2.2.2.1 (by omega) (by omega) (by omega)) (fun r6 σ6 hc6 => ?_)
              obtain ⟨rfl, rfl⟩ := hc6
              refine q_ifneb (pc := 77) (tgt := 86) dX7_allThatFits_77 (by decide) (fun h77 => ?_) (fun h77 => ?_)
              · refine q_aload_n (pc := 86) dX7_allThatFits_86 rfl ?_
                refine q_getR (pc := 87) dX7_allThatFits_87 fX7_26 rfl rfl ?_
                refine q_iload_n (pc := 90) dX7_allThatFits_90 rfl ?_
                refine q_V1i (pc := 91) dX7_allThatFits_91 vX7_167 rfl rfl (Nat.le_of_ble_eq_true rfl) (Nat.le_of_ble_eq_true rfl) (t_X4_isDone si15 hC.1) (fun r7 σ7 hc7 => ?_)
                obtain ⟨rfl, rfl⟩ := hc7
                refine q_ifeqb (pc := 94) (tgt := 100) dX7_allThatFits_94 (by decide) (fun h94 => ?_) (fun h94 => ?_)
                · refine q_iload_n (pc := 100) dX7_allThatFits_100 rfl ?_
                  refine q_iconst (pc := 101) dX7_allThatFits_101 ?_
                  refine q_icmpne (pc := 102) (tgt := 109) dX7_allThatFits_102 (by decide) (by omega) (by omega) (fun h => absurd h (by omega)) (fun h102 => ?_)
                  refine q_iconst (pc := 105) dX7_allThatFits_105 ?_
                  refine q_goto (pc := 106) (tgt := 110) dX7_allThatFits_106 (by decide) ?_
                  refine q_istore (pc := 110) dX7_allThatFits_110 (Nat.le_of_ble_eq_true rfl) ?_
                  refine q_iload_n (pc := 112) dX7_allThatFits_112 rfl ?_
                  refine q_ifne (pc := 113) (tgt := 120) dX7_allThatFits_113 (by decide) (by omega) (fun h113 => ?_) (fun h => absurd h (by omega))
                  refine q_iload_n (pc := 120) dX7_allThatFits_120 rfl ?_
                  refine q_iconst (pc := 121) dX7_allThatFits_121 ?_
                  refine q_icmpne (pc := 122) (tgt := 129) dX7_allThatFits_122 (by decide) (by omega) (by omega) (fun h => absurd h (by omega)) (fun h122 => ?_)
                  refine q_iconst (pc := 125) dX7_allThatFits_125 ?_
                  refine q_goto (pc := 126) (tgt := 131) dX7_allThatFits_126 (by decide) ?_
                  refine q_istore (pc := 131) dX7_allThatFits_131 (Nat.le_of_ble_eq_true rfl) ?_
                  refine q_iconst (pc := 133) dX7_allThatFits_133 ?_
                  refine q_istore (pc := 134) dX7_allThatFits_134 (Nat.le_of_ble_eq_true rfl) ?_
                  refine q_iload (pc := 136) dX7_allThatFits_136 rfl ?_
                  refine q_istore (pc := 138) dX7_allThatFits_138 (Nat.le_of_ble_eq_true rfl) ?_
                  refine q_locs _ [0, 1, 2, 4, 5, 6, 7, 8, 9, 10] rfl (q_mono (fun v σ' h => ?_) (x_fits_l (b := 1) (lo := 0) (hi := 2) hC hV hb (by omega) (by omega) (by omega) (by omega) (by omega) rfl (2 + 1 - 0) 0 σ (by omega) Fr.rf))
                  obtain ⟨x, e1, e2, σ2, e3, e4⟩ := h
                  subst e4
                  refine ⟨x, e1, ?_⟩
                  have e : s_fits A 1 0 2 deed w r i n = (x, aS A 0) := by
                    unfold s_fits
                    rw [if_pos (by omega), if_neg (by omega), if_pos (by omega), if_neg (by assumption), e2]
                  rw [e]
                  exact ⟨_, rfl, fun j hj => by rw [up_ne (by omega), e3.c (by decide) j hj], (hC.fr e3 (scr_in (by decide))).st⟩
                · refine q_ldc (pc := 97) (n := -1000002) kX7_137 dX7_allThatFits_97 ?_
                  refine q_ri (pc := 99) dX7_allThatFits_99 rfl ?_
                  first
                  | (refine ⟨A, ?_, fun _ _ => rfl, hC⟩
                     unfold s_fits
                     repeat' (first | rw [if_neg (by omega)] | rw [if_pos (by omega)] | rw [if_pos (by assumption)] | rw [if_neg (by assumption)])
                     done)
                  | (refine ⟨_, ?_, up0_c, hC.st⟩
                     unfold s_fits
                     repeat' (first | rw [if_neg (by omega)] | rw [if_pos (by omega)] | rw [if_pos (by assumption)] | rw [if_neg (by assumption)])
                     first | done | rfl)
              · refine q_aload_n (pc := 80) dX7_allThatFits_80 rfl ?_
                refine q_iconst (pc := 81) dX7_allThatFits_81 ?_
                refine q_V1i (pc := 82) dX7_allThatFits_82 vX7_67 rfl rfl (Nat.le_of_ble_eq_true rfl) (Nat.le_of_ble_eq_true rfl) (t_X7_found) (fun r8 σ8 hc8 => ?_)
                obtain ⟨rfl, rfl⟩ := hc8
                refine q_ri (pc := 85) dX7_allThatFits_85 rfl ?_
                first
                | (refine ⟨A, ?_, fun _ _ => rfl, hC⟩
                   unfold s_fits
                   repeat' (first | rw [if_neg (by omega)] | rw [if_pos (by omega)] | rw [if_pos (by assumption)] | rw [if_neg (by assumption)])
                   done)
                | (refine ⟨_, ?_, up0_c, hC.st⟩
                   unfold s_fits
                   repeat' (first | rw [if_neg (by omega)] | rw [if_pos (by omega)] | rw [if_pos (by assumption)] | rw [if_neg (by assumption)])
                   first | done | rfl)
            · refine q_aload_n (pc := 58) dX7_allThatFits_58 rfl ?_
              refine q_iconst (pc := 59) dX7_allThatFits_59 ?_
              refine q_V1i (pc := 60) dX7_allThatFits_60 vX7_67 rfl rfl (Nat.le_of_ble_eq_true rfl) (Nat.le_of_ble_eq_true rfl) (t_X7_found) (fun r9 σ9 hc9 => ?_)
              obtain ⟨rfl, rfl⟩ := hc9
              refine q_ri (pc := 63) dX7_allThatFits_63 rfl ?_
              first
              | (refine ⟨A, ?_, fun _ _ => rfl, hC⟩
                 unfold s_fits
                 repeat' (first | rw [if_neg (by omega)] | rw [if_pos (by omega)] | rw [if_pos (by assumption)] | rw [if_neg (by assumption)])
                 done)
              | (refine ⟨_, ?_, up0_c, hC.st⟩
                 unfold s_fits
                 repeat' (first | rw [if_neg (by omega)] | rw [if_pos (by omega)] | rw [if_pos (by assumption)] | rw [if_neg (by assumption)])
                 first | done | rfl)
          · refine q_ldc (pc := 43) (n := -1000001) kX7_66 dX7_allThatFits_43 ?_
            refine q_ri (pc := 45) dX7_allThatFits_45 rfl ?_
            first
            | (refine ⟨A, ?_, fun _ _ => rfl, hC⟩
               unfold s_fits
               repeat' (first | rw [if_neg (by omega)] | rw [if_pos (by omega)] | rw [if_pos (by assumption)] | rw [if_neg (by assumption)])
               done)
            | (refine ⟨_, ?_, up0_c, hC.st⟩
               unfold s_fits
               repeat' (first | rw [if_neg (by omega)] | rw [if_pos (by omega)] | rw [if_pos (by assumption)] | rw [if_neg (by assumption)])
               first | done | rfl)
  · have hb : byOk 2 1 20 := (Or.inr (Or.inr ⟨rfl, rfl, rfl⟩))
    refine q_aload_n (pc := 0) dX7_allThatFits_0 rfl ?_
    refine q_getR (pc := 1) dX7_allThatFits_1 fX7_26 rfl rfl ?_
    refine q_iload_n (pc := 4) dX7_allThatFits_4 rfl ?_
    refine q_V1i (pc := 5) dX7_allThatFits_5 vX7_164 rfl rfl (Nat.le_of_ble_eq_true rfl) (Nat.le_of_ble_eq_true rfl) (t_X4_hasDeed si15 hC.1 hV.1 (by omega)) (fun r1 σ1 hc1 => ?_)
    obtain ⟨rfl, rfl⟩ := hc1
    refine q_ifeqb (pc := 8) (tgt := 43) dX7_allThatFits_8 (by decide) (fun h8 => ?_) (fun h8 => ?_)
    · refine q_ldc (pc := 43) (n := -1000001) kX7_66 dX7_allThatFits_43 ?_
      refine q_ri (pc := 45) dX7_allThatFits_45 rfl ?_
      first
      | (refine ⟨A, ?_, fun _ _ => rfl, hC⟩
         unfold s_fits
         repeat' (first | rw [if_neg (by omega)] | rw [if_pos (by omega)] | rw [if_pos (by assumption)] | rw [if_neg (by assumption)])
         done)
      | (refine ⟨_, ?_, up0_c, hC.st⟩
         unfold s_fits
         repeat' (first | rw [if_neg (by omega)] | rw [if_pos (by omega)] | rw [if_pos (by assumption)] | rw [if_neg (by assumption)])
         first | done | rfl)
    · refine q_iload_n (pc := 11) dX7_allThatFits_11 rfl ?_
      refine q_iconst (pc := 12) dX7_allThatFits_12 ?_
      refine q_iconst (pc := 13) dX7_allThatFits_13 ?_
      refine q_S3i (pc := 14) dX7_allThatFits_14 vX7_62 (Nat.le_of_ble_eq_true rfl) (Nat.le_of_ble_eq_true rfl) (t_X7_isWithin (by omega) (by omega) (by omega)) (fun r2 σ2 hc2 => ?_)
      obtain ⟨rfl, rfl⟩ := hc2
      refine q_ifeqb (pc := 17) (tgt := 43) dX7_allThatFits_17 (by decide) (fun h17 => ?_) (fun h17 => ?_)
      · refine q_ldc (pc := 43) (n := -1000001) kX7_66 dX7_allThatFits_43 ?_
        refine q_ri (pc := 45) dX7_allThatFits_45 rfl ?_
        first
        | (refine ⟨A, ?_, fun _ _ => rfl, hC⟩
           unfold s_fits
           repeat' (first | rw [if_neg (by omega)] | rw [if_pos (by omega)] | rw [if_pos (by assumption)] | rw [if_neg (by assumption)])
           done)
        | (refine ⟨_, ?_, up0_c, hC.st⟩
           unfold s_fits
           repeat' (first | rw [if_neg (by omega)] | rw [if_pos (by omega)] | rw [if_pos (by assumption)] | rw [if_neg (by assumption)])
           first | done | rfl)
      · refine q_aload_n (pc := 20) dX7_allThatFits_20 rfl ?_
        refine q_getR (pc := 21) dX7_allThatFits_21 fX7_10 rfl rfl ?_
        refine q_iload (pc := 24) dX7_allThatFits_24 rfl ?_
        refine q_V1i (pc := 26) dX7_allThatFits_26 vX7_58 rfl rfl (Nat.le_of_ble_eq_true rfl) (Nat.le_of_ble_eq_true rfl) (t_X3_isRow (by omega)) (fun r3 σ3 hc3 => ?_)
        obtain ⟨rfl, rfl⟩ := hc3
        refine q_ifeqb (pc := 29) (tgt := 43) dX7_allThatFits_29 (by decide) (fun h29 => ?_) (fun h29 => ?_)
        · refine q_ldc (pc := 43) (n := -1000001) kX7_66 dX7_allThatFits_43 ?_
          refine q_ri (pc := 45) dX7_allThatFits_45 rfl ?_
          first
          | (refine ⟨A, ?_, fun _ _ => rfl, hC⟩
             unfold s_fits
             repeat' (first | rw [if_neg (by omega)] | rw [if_pos (by omega)] | rw [if_pos (by assumption)] | rw [if_neg (by assumption)])
             done)
          | (refine ⟨_, ?_, up0_c, hC.st⟩
             unfold s_fits
             repeat' (first | rw [if_neg (by omega)] | rw [if_pos (by omega)] | rw [if_pos (by assumption)] | rw [if_neg (by assumption)])
             first | done | rfl)
        · refine q_iload (pc := 32) dX7_allThatFits_32 rfl ?_
          refine q_iconst (pc := 34) dX7_allThatFits_34 ?_
          refine q_bipush (pc := 35) dX7_allThatFits_35 (by decide +kernel) ?_
          refine q_S3i (pc := 37) dX7_allThatFits_37 vX7_62 (Nat.le_of_ble_eq_true rfl) (Nat.le_of_ble_eq_true rfl) (t_X7_isWithin (by omega) (by omega) (by omega)) (fun r4 σ4 hc4 => ?_)
          obtain ⟨rfl, rfl⟩ := hc4
          refine q_ifneb (pc := 40) (tgt := 46) dX7_allThatFits_40 (by decide) (fun h40 => ?_) (fun h40 => ?_)
          · refine q_aload_n (pc := 46) dX7_allThatFits_46 rfl ?_
            refine q_getR (pc := 47) dX7_allThatFits_47 fX7_10 rfl rfl ?_
            refine q_iload (pc := 50) dX7_allThatFits_50 rfl ?_
            refine q_V1i (pc := 52) dX7_allThatFits_52 vX7_78 rfl rfl (Nat.le_of_ble_eq_true rfl) (Nat.le_of_ble_eq_true rfl) (t_X3_isMissing hC.2.2.2.2.1 hV.2.2.2.2.1 (by omega)) (fun r5 σ5 hc5 => ?_)
            obtain ⟨rfl, rfl⟩ := hc5
            refine q_ifeqb (pc := 55) (tgt := 64) dX7_allThatFits_55 (by decide) (fun h55 => ?_) (fun h55 => ?_)
            · refine q_aload_n (pc := 64) dX7_allThatFits_64 rfl ?_
              refine q_getR (pc := 65) dX7_allThatFits_65 fX7_10 rfl rfl ?_
              refine q_iload (pc := 68) dX7_allThatFits_68 rfl ?_
              refine q_iload (pc := 70) dX7_allThatFits_70 rfl ?_
              refine q_iload (pc := 72) dX7_allThatFits_72 rfl ?_
              refine q_V3i (pc := 74) dX7_allThatFits_74 vX7_81 rfl rfl (Nat.le_of_ble_eq_true rfl) (Nat.le_of_ble_eq_true rfl) (t_X3_hasPlaces hC.2.2.2.2.1 hV.2.2.2.2.1 (by omega) (by omega) (by omega)) (fun r6 σ6 hc6 => ?_)
              obtain ⟨rfl, rfl⟩ := hc6
              refine q_ifneb (pc := 77) (tgt := 86) dX7_allThatFits_77 (by decide) (fun h77 => ?_) (fun h77 => ?_)
              · refine q_aload_n (pc := 86) dX7_allThatFits_86 rfl ?_
                refine q_getR (pc := 87) dX7_allThatFits_87 fX7_26 rfl rfl ?_
                refine q_iload_n (pc := 90) dX7_allThatFits_90 rfl ?_
                refine q_V1i (pc := 91) dX7_allThatFits_91 vX7_167 rfl rfl (Nat.le_of_ble_eq_true rfl) (Nat.le_of_ble_eq_true rfl) (t_X4_isDone si15 hC.1) (fun r7 σ7 hc7 => ?_)
                obtain ⟨rfl, rfl⟩ := hc7
                refine q_ifeqb (pc := 94) (tgt := 100) dX7_allThatFits_94 (by decide) (fun h94 => ?_) (fun h94 => ?_)
                · refine q_iload_n (pc := 100) dX7_allThatFits_100 rfl ?_
                  refine q_iconst (pc := 101) dX7_allThatFits_101 ?_
                  refine q_icmpne (pc := 102) (tgt := 109) dX7_allThatFits_102 (by decide) (by omega) (by omega) (fun h102 => ?_) (fun h => absurd h (by omega))
                  refine q_iconst (pc := 109) dX7_allThatFits_109 ?_
                  refine q_istore (pc := 110) dX7_allThatFits_110 (Nat.le_of_ble_eq_true rfl) ?_
                  refine q_iload_n (pc := 112) dX7_allThatFits_112 rfl ?_
                  refine q_ifne (pc := 113) (tgt := 120) dX7_allThatFits_113 (by decide) (by omega) (fun h113 => ?_) (fun h => absurd h (by omega))
                  refine q_iload_n (pc := 120) dX7_allThatFits_120 rfl ?_
                  refine q_iconst (pc := 121) dX7_allThatFits_121 ?_
                  refine q_icmpne (pc := 122) (tgt := 129) dX7_allThatFits_122 (by decide) (by omega) (by omega) (fun h122 => ?_) (fun h => absurd h (by omega))
                  refine q_bipush (pc := 129) dX7_allThatFits_129 (by decide +kernel) ?_
                  refine q_istore (pc := 131) dX7_allThatFits_131 (Nat.le_of_ble_eq_true rfl) ?_
                  refine q_iconst (pc := 133) dX7_allThatFits_133 ?_
                  refine q_istore (pc := 134) dX7_allThatFits_134 (Nat.le_of_ble_eq_true rfl) ?_
                  refine q_iload (pc := 136) dX7_allThatFits_136 rfl ?_
                  refine q_istore (pc := 138) dX7_allThatFits_138 (Nat.le_of_ble_eq_true rfl) ?_
                  refine q_locs _ [0, 1, 2, 4, 5, 6, 7, 8, 9, 10] rfl (q_mono (fun v σ' h => ?_) (x_fits_l (b := 2) (lo := 1) (hi := 20) hC hV hb (by omega) (by omega) (by omega) (by omega) (by omega) rfl (20 + 1 - 1) 0 σ (by omega) Fr.rf))
                  obtain ⟨x, e1, e2, σ2, e3, e4⟩ := h
                  subst e4
                  refine ⟨x, e1, ?_⟩
                  have e : s_fits A 2 1 20 deed w r i n = (x, aS A 0) := by
                    unfold s_fits
                    rw [if_pos (by omega), if_neg (by omega), if_pos (by omega), if_neg (by assumption), e2]
                  rw [e]
                  exact ⟨_, rfl, fun j hj => by rw [up_ne (by omega), e3.c (by decide) j hj], (hC.fr e3 (scr_in (by decide))).st⟩
                · refine q_ldc (pc := 97) (n := -1000002) kX7_137 dX7_allThatFits_97 ?_
                  refine q_ri (pc := 99) dX7_allThatFits_99 rfl ?_
                  first
                  | (refine ⟨A, ?_, fun _ _ => rfl, hC⟩
                     unfold s_fits
                     repeat' (first | rw [if_neg (by omega)] | rw [if_pos (by omega)] | rw [if_pos (by assumption)] | rw [if_neg (by assumption)])
                     done)
                  | (refine ⟨_, ?_, up0_c, hC.st⟩
                     unfold s_fits
                     repeat' (first | rw [if_neg (by omega)] | rw [if_pos (by omega)] | rw [if_pos (by assumption)] | rw [if_neg (by assumption)])
                     first | done | rfl)
              · refine q_aload_n (pc := 80) dX7_allThatFits_80 rfl ?_
                refine q_iconst (pc := 81) dX7_allThatFits_81 ?_
                refine q_V1i (pc := 82) dX7_allThatFits_82 vX7_67 rfl rfl (Nat.le_of_ble_eq_true rfl) (Nat.le_of_ble_eq_true rfl) (t_X7_found) (fun r8 σ8 hc8 => ?_)
                obtain ⟨rfl, rfl⟩ := hc8
                refine q_ri (pc := 85) dX7_allThatFits_85 rfl ?_
                first
                | (refine ⟨A, ?_, fun _ _ => rfl, hC⟩
                   unfold s_fits
                   repeat' (first | rw [if_neg (by omega)] | rw [if_pos (by omega)] | rw [if_pos (by assumption)] | rw [if_neg (by assumption)])
                   done)
                | (refine ⟨_, ?_, up0_c, hC.st⟩
                   unfold s_fits
                   repeat' (first | rw [if_neg (by omega)] | rw [if_pos (by omega)] | rw [if_pos (by assumption)] | rw [if_neg (by assumption)])
                   first | done | rfl)
            · refine q_aload_n (pc := 58) dX7_allThatFits_58 rfl ?_
              refine q_iconst (pc := 59) dX7_allThatFits_59 ?_
              refine q_V1i (pc := 60) dX7_allThatFits_60 vX7_67 rfl rfl (Nat.le_of_ble_eq_true rfl) (Nat.le_of_ble_eq_true rfl) (t_X7_found) (fun r9 σ9 hc9 => ?_)
              obtain ⟨rfl, rfl⟩ := hc9
              refine q_ri (pc := 63) dX7_allThatFits_63 rfl ?_
              first
              | (refine ⟨A, ?_, fun _ _ => rfl, hC⟩
                 unfold s_fits
                 repeat' (first | rw [if_neg (by omega)] | rw [if_pos (by omega)] | rw [if_pos (by assumption)] | rw [if_neg (by assumption)])
                 done)
              | (refine ⟨_, ?_, up0_c, hC.st⟩
                 unfold s_fits
                 repeat' (first | rw [if_neg (by omega)] | rw [if_pos (by omega)] | rw [if_pos (by assumption)] | rw [if_neg (by assumption)])
                 first | done | rfl)
          · refine q_ldc (pc := 43) (n := -1000001) kX7_66 dX7_allThatFits_43 ?_
            refine q_ri (pc := 45) dX7_allThatFits_45 rfl ?_
            first
            | (refine ⟨A, ?_, fun _ _ => rfl, hC⟩
               unfold s_fits
               repeat' (first | rw [if_neg (by omega)] | rw [if_pos (by omega)] | rw [if_pos (by assumption)] | rw [if_neg (by assumption)])
               done)
            | (refine ⟨_, ?_, up0_c, hC.st⟩
               unfold s_fits
               repeat' (first | rw [if_neg (by omega)] | rw [if_pos (by omega)] | rw [if_pos (by assumption)] | rw [if_neg (by assumption)])
               first | done | rfl)
theorem x_who {deed w r i n : Int} (hC : CR σ A) (hV : AV A) (h1 : -2147483648 ≤ deed ∧ deed ≤ 2147483647) (h2 : -2147483648 ≤ w ∧ w ≤ 2147483647) (h3 : -2147483648 ≤ r ∧ r ≤ 2147483647) (h4 : -2147483648 ≤ i ∧ i ≤ 2147483647) (h6 : -2147483648 ≤ n ∧ n ≤ 2147483647) : qE G mX7_who (d + 7) 0 [(0, vr 0), (1, vi deed), (2, vi w), (3, vi r), (4, vi i), (5, vi n)] [] σ (ri (pC σ (s_fits A 0 1 5 deed w r i n))) := by
  refine q_aload_n (pc := 0) dX7_who_0 rfl ?_
  refine q_iconst (pc := 1) dX7_who_1 ?_
  refine q_iload_n (pc := 2) dX7_who_2 rfl ?_
  refine q_iload_n (pc := 3) dX7_who_3 rfl ?_
  refine q_iload_n (pc := 4) dX7_who_4 rfl ?_
  refine q_iload (pc := 5) dX7_who_5 rfl ?_
  refine q_iload (pc := 7) dX7_who_7 rfl ?_
  refine q_V6i (pc := 9) dX7_who_9 vX7_254 rfl rfl (Nat.le_of_ble_eq_true rfl) (Nat.le_of_ble_eq_true rfl) (x_fits (b := 0) (lo := 1) (hi := 5) hC hV (Or.inl ⟨rfl, rfl, rfl⟩) h1 h2 h3 h4 h6) (fun r1 σ1 hc1 => ?_)
  refine q_ri (pc := 12) dX7_who_12 rfl ?_
  exact hc1
theorem x_feet {deed w r i n : Int} (hC : CR σ A) (hV : AV A) (h1 : -2147483648 ≤ deed ∧ deed ≤ 2147483647) (h2 : -2147483648 ≤ w ∧ w ≤ 2147483647) (h3 : -2147483648 ≤ r ∧ r ≤ 2147483647) (h4 : -2147483648 ≤ i ∧ i ≤ 2147483647) (h6 : -2147483648 ≤ n ∧ n ≤ 2147483647) : qE G mX7_feet (d + 7) 0 [(0, vr 0), (1, vi deed), (2, vi w), (3, vi r), (4, vi i), (5, vi n)] [] σ (ri (pC σ (s_fits A 1 0 2 deed w r i n))) := by
  refine q_aload_n (pc := 0) dX7_feet_0 rfl ?_
  refine q_iconst (pc := 1) dX7_feet_1 ?_
  refine q_iload_n (pc := 2) dX7_feet_2 rfl ?_
  refine q_iload_n (pc := 3) dX7_feet_3 rfl ?_
  refine q_iload_n (pc := 4) dX7_feet_4 rfl ?_
  refine q_iload (pc := 5) dX7_feet_5 rfl ?_
  refine q_iload (pc := 7) dX7_feet_7 rfl ?_
  refine q_V6i (pc := 9) dX7_feet_9 vX7_254 rfl rfl (Nat.le_of_ble_eq_true rfl) (Nat.le_of_ble_eq_true rfl) (x_fits (b := 1) (lo := 0) (hi := 2) hC hV (Or.inr (Or.inl ⟨rfl, rfl, rfl⟩)) h1 h2 h3 h4 h6) (fun r1 σ1 hc1 => ?_)
  refine q_ri (pc := 12) dX7_feet_12 rfl ?_
  exact hc1
theorem x_amounts {deed w r i n : Int} (hC : CR σ A) (hV : AV A) (h1 : -2147483648 ≤ deed ∧ deed ≤ 2147483647) (h2 : -2147483648 ≤ w ∧ w ≤ 2147483647) (h3 : -2147483648 ≤ r ∧ r ≤ 2147483647) (h4 : -2147483648 ≤ i ∧ i ≤ 2147483647) (h6 : -2147483648 ≤ n ∧ n ≤ 2147483647) : qE G mX7_amounts (d + 7) 0 [(0, vr 0), (1, vi deed), (2, vi w), (3, vi r), (4, vi i), (5, vi n)] [] σ (ri (pC σ (s_fits A 2 1 20 deed w r i n))) := by
  refine q_aload_n (pc := 0) dX7_amounts_0 rfl ?_
  refine q_iconst (pc := 1) dX7_amounts_1 ?_
  refine q_iload_n (pc := 2) dX7_amounts_2 rfl ?_
  refine q_iload_n (pc := 3) dX7_amounts_3 rfl ?_
  refine q_iload_n (pc := 4) dX7_amounts_4 rfl ?_
  refine q_iload (pc := 5) dX7_amounts_5 rfl ?_
  refine q_iload (pc := 7) dX7_amounts_7 rfl ?_
  refine q_V6i (pc := 9) dX7_amounts_9 vX7_254 rfl rfl (Nat.le_of_ble_eq_true rfl) (Nat.le_of_ble_eq_true rfl) (x_fits (b := 2) (lo := 1) (hi := 20) hC hV (Or.inr (Or.inr ⟨rfl, rfl, rfl⟩)) h1 h2 h3 h4 h6) (fun r1 σ1 hc1 => ?_)
  refine q_ri (pc := 12) dX7_amounts_12 rfl ?_
  exact hc1
end T2
