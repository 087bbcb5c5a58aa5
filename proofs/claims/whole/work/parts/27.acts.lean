/-! ===== what is done: hours, perform, board, amount, jack, undo ===== -/
def kp (A : qA) : List (Int → Int) := (A.1 :: A.2.1).take 24
def ak (A : qA) : qA := (A.1, kp A, A.2.2)
def hK : Nat → qA → qA
  | 0, A => A
  | k + 1, A => (mHour (hK k A).1, kp (hK k A), (hK k A).2.2)
def s_hours (A : qA) (n : Int) : Int × qA := if A.1 0 = 1 then (if 1 ≤ n ∧ n ≤ 24 then (if 999 < A.1 4 + n then (-1000003, A) else (mAwry (hK n.toNat A).1, hK n.toNat A)) else (-1000001, A)) else (-1000002, A)
def s_perform (A : qA) (i : Int) : Int × qA := if 0 ≤ i ∧ i < A.1 5 then (if mDone A.1 i then (-1000002, A) else (mAwry (mDo A.1 i), mDo A.1 i, kp A, A.2.2)) else (-1000001, A)
def s_board (A : qA) (i : Int) : Int × qA := if A.1 0 = 1 then (if 0 ≤ i ∧ i ≤ 2 then (if A.1 (10 + i) = 0 then (-1000002, A) else (A.1 (10 + i) - 1, u1 A.1 (10 + i) (A.1 (10 + i) - 1), kp A, A.2.2)) else (-1000001, A)) else (-1000002, A)
def s_amount (A : qA) (i n : Int) : Int × qA := if (0 ≤ i ∧ i < A.1 5) ∧ (1 ≤ n ∧ n ≤ 20) then (if mDone A.1 i then (-1000002, A) else (A.1 (15 + 3 * i), u1 A.1 (15 + 3 * i) n, kp A, A.2.2)) else (-1000001, A)
def s_jack (A : qA) (i n : Int) : Int × qA := if A.1 0 = 1 then (if (0 ≤ i ∧ i ≤ 2) ∧ (1 ≤ n ∧ n ≤ 20) then (mLift A.1 i n (7 + i), mLift A.1 i n, kp A, A.2.2) else (-1000001, A)) else (-1000002, A)
def s_undo (A : qA) : Int × qA := match A.2.1 with
  | [] => (-1000002, A)
  | g :: as => (as.length, g, as, A.2.2)
/-! the row after each -/
theorem qor_1 : ∀ a : Fin 128, ∀ i : Fin 7, qor (a : Nat) (qshl 1 (i : Nat)) = (((a : Nat) ||| 2 ^ (i : Nat) : Nat) : Int) := by decide +kernel
theorem qor_n {a i : Int} (ha : 0 ≤ a ∧ a < 128) (hi : 0 ≤ i ∧ i < 7) : qor a (qshl 1 i) = ((a.toNat ||| 2 ^ i.toNat : Nat) : Int) := by
  have h := qor_1 ⟨a.toNat, by omega⟩ ⟨i.toNat, by omega⟩
  simp only at h
  rw [show ((a.toNat : Nat) : Int) = a by omega, show ((i.toNat : Nat) : Int) = i by omega] at h
  exact h
theorem pow7 {n : Int} (h : 0 ≤ n ∧ n ≤ 7) : (2 : Int) ^ n.toNat ≤ 128 := by
  rcases (show n = 0 ∨ n = 1 ∨ n = 2 ∨ n = 3 ∨ n = 4 ∨ n = 5 ∨ n = 6 ∨ n = 7 by omega) with rfl | rfl | rfl | rfl | rfl | rfl | rfl | rfl <;> decide
theorem pow_c (n : Nat) : (2 : Int) ^ n = ((2 ^ n : Nat) : Int) := by rw [Int.natCast_pow]; rfl
theorem done_lt {a n i : Int} (ha : 0 ≤ a ∧ a < 2 ^ n.toNat) (hn : 0 ≤ n ∧ n ≤ 7) (hi : 0 ≤ i ∧ i < n) : 0 ≤ qor a (qshl 1 i) ∧ qor a (qshl 1 i) < 2 ^ n.toNat := by
  have h7 := pow7 hn
  rw [qor_n ⟨ha.1, by omega⟩ (by omega)]
  refine ⟨by omega, ?_⟩
  have ha2 := ha.2
  rw [pow_c] at ha2 ⊢
  have h1 : a.toNat < 2 ^ n.toNat := by omega
  have h2 : 2 ^ i.toNat < 2 ^ n.toNat := Nat.pow_lt_pow_right (by omega) (by omega)
  have := Nat.or_lt_two_pow h1 h2
  omega
theorem Same.rf {f : Int → Int} : Same f f := ⟨rfl, rfl, rfl, rfl, rfl, fun _ _ _ => ⟨rfl, rfl⟩⟩
theorem Same.tr {f g h : Int → Int} (a : Same f g) (b : Same f h) : Same g h := by
  obtain ⟨a0, a1, a2, a3, a5, ad⟩ := a
  obtain ⟨b0, b1, b2, b3, b5, bd⟩ := b
  refine ⟨by omega, by omega, by omega, by omega, by omega, fun i h0 h1 => ?_⟩
  have p := ad i h0 (by omega)
  have q := bd i h0 (by omega)
  omega
/-- a row with the same deeds -/
theorem Row.mk {f g : Int → Int} (h : Row f) (hs : Same f g) (ho : mOk g) (h4 : 0 ≤ g 4 ∧ g 4 ≤ 999) (h6 : 0 ≤ g 6 ∧ g 6 < 2 ^ (f 5).toNat) (ha : ∀ i, 0 ≤ i → i < f 5 → 1 ≤ g (15 + 3 * i) ∧ g (15 + 3 * i) ≤ 20) : Row g := by
  obtain ⟨s0, s1, s2, s3, s5, sd⟩ := hs
  obtain ⟨r1, r2, r3, r4, r5, r6, r7, r8⟩ := h
  refine ⟨ho, h4, by omega, ?_, by omega, fun q => by omega, fun q => by have := r7 (by omega); omega, fun i h0 h1 => ?_⟩
  · rw [s5]; exact h6
  · have a := sd i h0 (by omega)
    have b := r8 i h0 (by omega)
    have c := ha i h0 (by omega)
    omega
theorem mHour_same (f : Int → Int) : Same f (mHour f) := ⟨mHour_o f (by omega), mHour_o f (by omega), mHour_o f (by omega), mHour_o f (by omega), mHour_o f (by omega), fun i h0 h1 => ⟨mHour_o f (by omega), mHour_o f (by omega)⟩⟩
theorem mHour_row {f : Int → Int} (h : Row f) (h4 : f 4 + 1 ≤ 999) : Row (mHour f) := by
  refine h.mk (mHour_same f) (mHour_ok h.1) ?_ ?_ (fun i h0 h1 => ?_)
  · rw [mHour_4]; have := h.2.1; omega
  · rw [mHour_o f (by omega)]; exact h.2.2.2.1
  · rw [mHour_o f (by omega)]; exact (h.2.2.2.2.2.2.2 i h0 h1).2.2
theorem Row.d {f : Int → Int} (h : Row f) {i : Int} (h0 : 0 ≤ i) (h1 : i < f 5) : (1 ≤ f (13 + 3 * i) ∧ f (13 + 3 * i) ≤ 5) ∧ (0 ≤ f (14 + 3 * i) ∧ f (14 + 3 * i) ≤ 2) ∧ (1 ≤ f (15 + 3 * i) ∧ f (15 + 3 * i) ≤ 20) := h.2.2.2.2.2.2.2 i h0 h1
theorem mDo_o {f : Int → Int} (h : Row f) {i : Int} (h0 : 0 ≤ i) (h1 : i < f 5) {j : Int} (hj : j < 6 ∨ 12 < j) : mDo f i j = f j := by
  have := h.d h0 h1
  unfold mDo u1
  rw [if_neg (by omega)]
  exact mAct_o f _ _ _ this.2.1.1 this.2.1.2 (by omega)
theorem mDo_6 (f : Int → Int) (i : Int) : mDo f i 6 = qor (f 6) (qshl 1 i) := by unfold mDo u1; rw [if_pos rfl]
theorem mDo_same {f : Int → Int} (h : Row f) {i : Int} (h0 : 0 ≤ i) (h1 : i < f 5) : Same f (mDo f i) := ⟨mDo_o h h0 h1 (by omega), mDo_o h h0 h1 (by omega), mDo_o h h0 h1 (by omega), mDo_o h h0 h1 (by omega), mDo_o h h0 h1 (by omega), fun k a b => ⟨mDo_o h h0 h1 (by omega), mDo_o h h0 h1 (by omega)⟩⟩
theorem mDo_row {f : Int → Int} (h : Row f) {i : Int} (h0 : 0 ≤ i) (h1 : i < f 5) : Row (mDo f i) := by
  have hd := h.d h0 h1
  refine h.mk (mDo_same h h0 h1) (mDo_ok h.1 hd.2.1) ?_ ?_ (fun k a b => ?_)
  · rw [mDo_o h h0 h1 (by omega)]; exact h.2.1
  · rw [mDo_6]; exact done_lt h.2.2.2.1 h.de ⟨h0, h1⟩
  · rw [mDo_o h h0 h1 (by omega)]; exact (h.d a b).2.2
theorem u1_ne {f : Int → Int} {i v j : Int} (h : j ≠ i) : u1 f i v j = f j := if_neg h
theorem u1_eq {f : Int → Int} {i v : Int} : u1 f i v i = v := if_pos rfl
/-- one number of 7 to 12 or an amount changes -/
theorem u1_row {f : Int → Int} (h : Row f) {k v : Int} (hk : (7 ≤ k ∧ k ≤ 12) ∨ ∃ i, 0 ≤ i ∧ k = 15 + 3 * i) (ho : mOk (u1 f k v)) (hv : 15 ≤ k → 1 ≤ v ∧ v ≤ 20) : Row (u1 f k v) ∧ Same f (u1 f k v) := by
  have hs : Same f (u1 f k v) := by
    have n : ∀ j, j < 7 ∨ (∃ i, 0 ≤ i ∧ j = 13 + 3 * i) ∨ (∃ i, 0 ≤ i ∧ j = 14 + 3 * i) → u1 f k v j = f j := fun j hj => u1_ne (by
      rcases hk with q | ⟨i, q1, q2⟩ <;> rcases hj with p | ⟨p, p1, p2⟩ | ⟨p, p1, p2⟩ <;> omega)
    exact ⟨n 0 (Or.inl (by omega)), n 1 (Or.inl (by omega)), n 2 (Or.inl (by omega)), n 3 (Or.inl (by omega)), n 5 (Or.inl (by omega)), fun i h0 h1 => ⟨n _ (Or.inr (Or.inl ⟨i, h0, rfl⟩)), n _ (Or.inr (Or.inr ⟨i, h0, rfl⟩))⟩⟩
  refine ⟨h.mk hs ho ?_ ?_ (fun i h0 h1 => ?_), hs⟩
  · rw [u1_ne (by rcases hk with q | ⟨i, q1, q2⟩ <;> omega)]; exact h.2.1
  · rw [u1_ne (by rcases hk with q | ⟨i, q1, q2⟩ <;> omega)]; exact h.2.2.2.1
  · unfold u1
    split
    · exact hv (by omega)
    · exact (h.d h0 h1).2.2
/-! validity -/
theorem AV.keep {A : qA} (h : AV A) (h1 : A.1 0 = 1) : AV (ak A) := by
  obtain ⟨v1, ⟨v2, v3, v4⟩, v5⟩ := h
  refine ⟨v1, ⟨by show (List.take 24 _).length ≤ 24; rw [List.length_take]; omega, fun g hg => ?_, fun q => ?_⟩, v5⟩
  · have := List.mem_of_mem_take hg
    rcases List.mem_cons.mp this with rfl | q
    · exact ⟨v1, Same.rf⟩
    · exact v3 g q
  · exfalso
    have : A.1 0 = 0 := q
    omega
theorem AV.to {A : qA} (h : AV A) {g : Int → Int} (hR : Row g) (hs : Same A.1 g) : AV (g, A.2) := by
  obtain ⟨v1, ⟨v2, v3, v4⟩, v5⟩ := h
  refine ⟨hR, ⟨v2, fun k hk => ⟨(v3 k hk).1, hs.tr (v3 k hk).2⟩, fun q => v4 ?_⟩, v5⟩
  rw [← hs.1]; exact q
theorem hK_av {A : qA} (h : AV A) (h1 : A.1 0 = 1) : ∀ k : Nat, A.1 4 + k ≤ 999 → AV (hK k A) ∧ (hK k A).1 0 = 1 ∧ (hK k A).1 4 = A.1 4 + k
  | 0, _ => ⟨h, h1, by show A.1 4 = _; omega⟩
  | k + 1, hk => by
    obtain ⟨a, b, c⟩ := hK_av h h1 k (by omega)
    have q := (a.keep b).to (g := mHour (hK k A).1) (mHour_row a.1 (by omega)) (mHour_same _)
    refine ⟨q, ?_, ?_⟩
    · show mHour (hK k A).1 0 = 1
      rw [mHour_o _ (by omega)]; exact b
    · show mHour (hK k A).1 4 = _
      rw [mHour_4, c]; omega
theorem av_hours {A : qA} (h : AV A) (n : Int) : AV (s_hours A n).2 := by
  unfold s_hours
  split
  · split
    · split
      · exact h
      · exact (hK_av h (by assumption) n.toNat (by omega)).1
    · exact h
  · exact h
theorem av_perform {A : qA} (h : AV A) (i : Int) : AV (s_perform A i).2 := by
  unfold s_perform
  split
  · rename_i q
    split
    · exact h
    · exact (h.keep (h.1.one q.1 q.2)).to (g := mDo A.1 i) (mDo_row h.1 q.1 q.2) (mDo_same h.1 q.1 q.2)
  · exact h
theorem mBoard_ok {f : Int → Int} {i : Int} (h : mOk f) (hi : 0 ≤ i ∧ i ≤ 2) (hz : f (10 + i) ≠ 0) : mOk (u1 f (10 + i) (f (10 + i) - 1)) := u1_ok h (fun q => by omega) (fun _ => by have := h.s hi.1 hi.2; omega)
theorem av_board {A : qA} (h : AV A) (i : Int) : AV (s_board A i).2 := by
  unfold s_board
  split
  · rename_i q1
    split
    · rename_i q
      split
      · exact h
      · rename_i q2
        have r := u1_row h.1 (k := 10 + i) (v := A.1 (10 + i) - 1) (Or.inl (by omega)) (mBoard_ok h.1.1 q q2) (fun q => by omega)
        exact (h.keep q1).to r.1 r.2
    · exact h
  · exact h
theorem av_amount {A : qA} (h : AV A) (i n : Int) : AV (s_amount A i n).2 := by
  unfold s_amount
  split
  · rename_i q
    split
    · exact h
    · have r := u1_row h.1 (k := 15 + 3 * i) (v := n) (Or.inr ⟨i, q.1.1, rfl⟩) (u1_ok h.1.1 (fun q => by omega) (fun q => by omega)) (fun _ => q.2)
      exact (h.keep (h.1.one q.1.1 q.1.2)).to r.1 r.2
  · exact h
theorem av_jack {A : qA} (h : AV A) (i n : Int) : AV (s_jack A i n).2 := by
  unfold s_jack
  split
  · rename_i q1
    split
    · rename_i q
      have r := u1_row h.1 (k := 7 + i) (v := mClamp (A.1 (7 + i) + n)) (Or.inl (by omega)) (mLift_ok h.1.1 q.1.1 q.1.2) (fun q => by omega)
      exact (h.keep q1).to r.1 r.2
    · exact h
  · exact h
theorem av_undo {A : qA} (h : AV A) : AV (s_undo A).2 := by
  obtain ⟨f, as, B⟩ := A
  cases as with
  | nil => exact h
  | cons g as =>
    obtain ⟨v1, ⟨v2, v3, v4⟩, v5⟩ := h
    have hg := v3 g (List.mem_cons_self ..)
    refine ⟨hg.1, ⟨?_, fun k hk => ⟨(v3 k (List.mem_cons_of_mem _ hk)).1, hg.2.tr (v3 k (List.mem_cons_of_mem _ hk)).2⟩, fun q => ?_⟩, v5⟩
    · have : (g :: as).length ≤ 24 := v2
      rw [List.length_cons] at this
      show as.length ≤ 24
      omega
    · exfalso
      have := v4 (hg.2.1.symm.trans q)
      exact absurd this (by simp)
/-! the class's site and acts -/
theorem SiR.congr {σ : qM} {b : Nat} {f g : Int → Int} (h : SiR σ b f) (h5 : f 5 ≤ 7) (e : ∀ j, 0 ≤ j → j < 34 → g j = f j) : SiR σ b g := by
  obtain ⟨⟨a0, a4, a5, a6⟩, a1, aS, aD⟩ := h
  refine ⟨?_, ?_, aS.congr (fun j h0 h1 => e j (by omega) (by omega)), ?_⟩
  · rw [e 0 (by omega) (by omega), e 4 (by omega) (by omega), e 5 (by omega) (by omega), e 6 (by omega) (by omega)]; exact ⟨a0, a4, a5, a6⟩
  · rw [e 0 (by omega) (by omega), e 1 (by omega) (by omega), e 2 (by omega) (by omega), e 3 (by omega) (by omega)]; exact a1
  · intro i h0 h1
    rw [e 5 (by omega) (by omega)] at h1
    rw [e _ (by omega) (by omega), e _ (by omega) (by omega), e _ (by omega) (by omega)]
    exact aD i h0 h1
theorem SiR.st {σ σ1 : qM} {f g : Int → Int} {S : List Nat} (h : SiR σ 15 f) (hF : Fr σ σ1 S) (hS : StR σ1 19 g) (hn : S.all (fun j => decide (j < 15 ∨ 18 < j)) = true) (e : ∀ j, j < 7 ∨ 12 < j → g j = f j) : SiR σ1 15 g := by
  obtain ⟨⟨a0, a4, a5, a6⟩, a1, aS, aD⟩ := h
  have n : ∀ j, 15 ≤ j → j ≤ 18 → σ1 j = σ j := fun j h0 h1 => hF j (fun q => by have := List.all_eq_true.mp hn j q; simp at this; omega)
  refine ⟨?_, ?_, hS, ?_⟩
  · rw [n 15 (by omega) (by omega), e 0 (by omega), e 4 (by omega), e 5 (by omega), e 6 (by omega)]; exact ⟨a0, a4, a5, a6⟩
  · rw [n 15 (by omega) (by omega), e 0 (by omega), e 1 (by omega), e 2 (by omega), e 3 (by omega)]; exact a1
  · intro i h0 h1
    rw [e 5 (by omega)] at h1
    rw [n (15 + 1) (by omega) (by omega), n (15 + 2) (by omega) (by omega), n (15 + 3) (by omega) (by omega), e _ (by omega), e _ (by omega), e _ (by omega)]
    exact aD i h0 h1
theorem SiR.u6 {σ : qM} {f : Int → Int} {v : Int} (h : SiR σ 15 f) : SiR (up σ 15 6 v) 15 (u1 f 6 v) := by
  obtain ⟨⟨a0, a4, a5, a6⟩, a1, aS, aD⟩ := h
  have n : ∀ j : Nat, j ≠ 15 → up σ 15 6 v j = σ j := fun j hj => up_ne hj
  refine ⟨?_, ?_, ?_, ?_⟩
  · simp only [up_same]; unfold u1; simp; exact ⟨a0, a4, a5⟩
  · simp only [up_same]; unfold u1; simp; exact a1
  · unfold StR
    rw [n _ (by omega), n _ (by omega)]
    exact aS.congr (g := u1 f 6 v) (fun j h0 h1 => u1_ne (by omega))
  · intro i h0 h1
    rw [u1_ne (by omega)] at h1
    rw [n _ (by omega), n _ (by omega), n _ (by omega), u1_ne (by omega), u1_ne (by omega), u1_ne (by omega)]
    exact aD i h0 h1
theorem SiR.am {σ : qM} {f : Int → Int} {k v : Int} (h : SiR σ 15 f) (hk : 0 ≤ k) : SiR (up σ 18 k v) 15 (u1 f (15 + 3 * k) v) := by
  obtain ⟨⟨a0, a4, a5, a6⟩, a1, aS, aD⟩ := h
  have n : ∀ j : Nat, j ≠ 18 → up σ 18 k v j = σ j := fun j hj => up_ne hj
  refine ⟨?_, ?_, ?_, ?_⟩
  · rw [n 15 (by omega), u1_ne (by omega), u1_ne (by omega), u1_ne (by omega), u1_ne (by omega)]; exact ⟨a0, a4, a5, a6⟩
  · rw [n 15 (by omega), u1_ne (by omega), u1_ne (by omega), u1_ne (by omega), u1_ne (by omega)]; exact a1
  · unfold StR
    rw [n _ (by omega), n _ (by omega)]
    exact aS.congr (g := u1 f (15 + 3 * k) v) (fun j h0 h1 => u1_ne (by omega))
  · intro i h0 h1
    rw [u1_ne (by omega)] at h1
    have q := aD i h0 h1
    rw [n _ (by omega), n _ (by omega), u1_ne (by omega), u1_ne (by omega)]
    refine ⟨q.1, q.2.1, ?_⟩
    show up σ 18 k v 18 i = _
    rw [up_same]
    unfold u1
    by_cases c : i = k
    · rw [if_pos c, if_pos (by omega)]
    · rw [if_neg c, if_neg (by omega)]; exact q.2.2
def siC (S : List Nat) : Prop := ∀ j ∈ S, (15 ≤ j ∧ j ≤ 28) ∨ (44 ≤ j ∧ j ≤ 79)
theorem si_in {S : List Nat} (h : S.all (fun j => decide ((15 ≤ j ∧ j ≤ 28) ∨ (44 ≤ j ∧ j ≤ 79))) = true) : siC S := fun j hj => by simpa using List.all_eq_true.mp h j hj
theorem CR.site {σ σ1 : qM} {A : qA} {S : List Nat} {g : Int → Int} {as : List (Int → Int)} (h : CR σ A) (hF : Fr σ σ1 S) (hS : siC S) (hg : SiR σ1 15 g) (ha : AcC σ1 as) : CR σ1 (g, as, A.2.2) := by
  have e : ∀ j : Nat, ¬ ((15 ≤ j ∧ j ≤ 28) ∨ (44 ≤ j ∧ j ≤ 79)) → σ1 j = σ j := fun j hj => hF j (fun q => hj (hS j q))
  have n : ∀ j : Nat, ¬ ((15 ≤ j ∧ j ≤ 28) ∨ (44 ≤ j ∧ j ≤ 79)) → j ∉ S := fun j h1 h2 => h1 (hS j h2)
  obtain ⟨h1, h2, h3, h4, h5, h6, h7, h8⟩ := h
  refine ⟨hg, ha, ?_, ?_, h5.fr hF (fun j a b => n j (by omega)), ?_, ⟨⟨?_, fun q => (h7.1.2 q).fr hF (fun j a b => n j (by omega))⟩, ?_, fun q => (h7.2.2 q).fr hF (fun j a b => n j (by omega))⟩, ?_⟩
  · rw [e 0 (by omega)]; exact h3
  · rw [e 0 (by omega)]; exact h4
  · rw [e 13 (by omega), e 14 (by omega)]; exact h6
  · rw [e 30 (by omega)]; exact h7.1.1
  · rw [e 37 (by omega)]; exact h7.2.1
  · rw [e 80 (by omega), e 81 (by omega)]; exact h8
theorem AcC.fr {σ σ1 : qM} {S : List Nat} {as : List (Int → Int)} (h : AcC σ as) (hF : Fr σ σ1 S) (h1 : 44 ∉ S) (h2 : 45 ∉ S) : AcC σ1 as := by
  unfold AcC PkR
  rw [hF 44 h1, hF 45 h2]
  exact h
theorem CR.row {σ σ1 : qM} {A : qA} {S : List Nat} {g : Int → Int} (h : CR σ A) (hF : Fr σ σ1 S) (hS : S.all (fun j => decide (15 ≤ j ∧ j ≤ 28)) = true) (hg : SiR σ1 15 g) : CR σ1 (g, A.2) := by
  have n : ∀ j ∈ S, 15 ≤ j ∧ j ≤ 28 := fun j hj => by simpa using List.all_eq_true.mp hS j hj
  exact h.site hF (fun j hj => Or.inl (n j hj)) hg (h.2.1.fr hF (fun q => by have := n _ q; omega) (fun q => by have := n _ q; omega))
theorem MR.row {σ σ1 : qM} {A : qA} {S : List Nat} {g : Int → Int} (h : MR σ A) (hF : Fr σ σ1 S) (hS : S.all (fun j => decide (j = 86 ∨ j = 87 ∨ j = 88 ∨ j = 91 ∨ j = 92)) = true) (hg : RwR σ1 86 g) : MR σ1 (g, A.2) := by
  have e : ∀ j : Nat, ¬ (j = 86 ∨ j = 87 ∨ j = 88 ∨ j = 91 ∨ j = 92) → σ1 j = σ j := fun j hj => hF j (fun q => hj (by simpa using List.all_eq_true.mp hS j q))
  obtain ⟨h1, h2, h3, h4, h5, h6, h7, h8⟩ := h
  unfold MR AcM ShM
  rw [e 82 (by omega), e 83 (by omega), e 84 (by omega), e 85 (by omega), e 89 (by omega), e 90 (by omega), e 93 (by omega), e 94 (by omega), e 95 (by omega)]
  exact ⟨hg, h2, h3, h4, h5, h6, h7, h8⟩
