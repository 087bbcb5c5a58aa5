/-! ===== hours ===== -/
def mHours : Nat → (Int → Int) → Int → Int
  | 0, f => f
  | n + 1, f => mHour (mHours n f)
theorem mRain_hi (f : Int → Int) : mRain f 7 = mClamp (f 7 + -(f 10)) ∧ mRain f 8 = mClamp (f 8 + -(f 11)) ∧ mRain f 9 = mClamp (f 9 + -(f 12)) := by
  simp [mRain, mLift, u1]
theorem mRain_o (f : Int → Int) {j : Int} (h : j < 7 ∨ 9 < j) : mRain f j = f j := by
  simp [mRain, mLift, u1, show j ≠ 7 by omega, show j ≠ 8 by omega, show j ≠ 9 by omega]
theorem mHour_o (f : Int → Int) {j : Int} (h : j < 4 ∨ j = 5 ∨ j = 6 ∨ 9 < j) : mHour f j = f j := by
  unfold mHour u1
  rw [if_neg (by omega)]
  split
  · exact mRain_o f (by omega)
  · rfl
theorem mHour_4 (f : Int → Int) : mHour f 4 = f 4 + 1 := by simp [mHour, u1]
theorem mHours_o (f : Int → Int) {j : Int} (h : j < 4 ∨ j = 5 ∨ j = 6 ∨ 9 < j) : ∀ n, mHours n f j = f j
  | 0 => rfl
  | n + 1 => (mHour_o _ h).trans (mHours_o f h n)
theorem mHours_4 (f : Int → Int) : ∀ n : Nat, mHours n f 4 = f 4 + n
  | 0 => by simp [mHours]
  | n + 1 => by
    have := mHours_4 f n
    show mHour _ 4 = _
    rw [mHour_4, this]
    omega
theorem mHours_ok {f : Int → Int} (h : mOk f) : ∀ n, mOk (mHours n f)
  | 0 => h
  | n + 1 => mHour_ok (mHours_ok h n)
theorem mRains_0 (f : Int → Int) : mRains f 0 = 0 := by
  unfold mRains
  rw [show f 4 + 0 + f 3 - 1 = f 4 + f 3 - 1 by omega]
  omega
theorem mRains_s {f : Int → Int} (h3 : 1 ≤ f 3 ∧ f 3 ≤ 9) (h4 : 0 ≤ f 4) (n : Int) (hn : 0 ≤ n) : mRains f (n + 1) = mRains f n + (if (f 4 + n) % f 3 = 0 then 1 else 0) := by
  unfold mRains
  generalize f 3 = r at h3
  generalize f 4 = x at h4
  rcases (show r = 1 ∨ r = 2 ∨ r = 3 ∨ r = 4 ∨ r = 5 ∨ r = 6 ∨ r = 7 ∨ r = 8 ∨ r = 9 by omega) with rfl | rfl | rfl | rfl | rfl | rfl | rfl | rfl | rfl <;> split <;> omega
theorem clamp2 {h P s : Int} (hh : h ≤ 99) (hP : 0 ≤ P) (hs : 0 ≤ s) : mClamp (mClamp (h + -P) + -s) = mClamp (h + -(P + s)) := by
  unfold mClamp
  split
  · split
    · split
      · rfl
      · split <;> omega
    · split
      · split <;> omega
      · split <;> (try split) <;> omega
  · split
    · split
      · split <;> (try split) <;> omega
      · split <;> (try split) <;> omega
    · split
      · split <;> (try split) <;> omega
      · split <;> (try split) <;> omega
theorem mHours_h {f : Int → Int} (ho : mOk f) (h3 : 1 ≤ f 3 ∧ f 3 ≤ 9) (h4 : 0 ≤ f 4) : ∀ n : Nat, mHours n f 7 = mClamp (f 7 + -(f 10) * mRains f n) ∧ mHours n f 8 = mClamp (f 8 + -(f 11) * mRains f n) ∧ mHours n f 9 = mClamp (f 9 + -(f 12) * mRains f n)
  | 0 => by
    obtain ⟨o1, o2, o3, o4, o5, o6⟩ := ho
    have c : ∀ x : Int, 0 ≤ x → x ≤ 99 → x = mClamp x := by
      intro x h1 h2
      unfold mClamp
      rw [if_neg (by omega), if_neg (by omega)]
    have e := mRains_0 f
    show f 7 = mClamp (f 7 + -(f 10) * mRains f 0) ∧ f 8 = mClamp (f 8 + -(f 11) * mRains f 0) ∧ f 9 = mClamp (f 9 + -(f 12) * mRains f 0)
    rw [e]
    simp only [Int.mul_zero, Int.add_zero]
    exact ⟨c _ o1.1 o1.2, c _ o2.1 o2.2, c _ o3.1 o3.2⟩
  | n + 1 => by
    have ih := mHours_h ho h3 h4 n
    have hr := mRains_s h3 h4 n (by omega)
    have hr0 := (mRains_in (f := f) (n := n) h3.1 h4 (by omega)).1
    obtain ⟨o1, o2, o3, o4, o5, o6⟩ := ho
    have e3 := mHours_o f (j := 3) (by omega) n
    have e4 := mHours_4 f n
    have e10 := mHours_o f (j := 10) (by omega) n
    have e11 := mHours_o f (j := 11) (by omega) n
    have e12 := mHours_o f (j := 12) (by omega) n
    show mHour (mHours n f) 7 = mClamp (f 7 + -(f 10) * mRains f ((n : Int) + 1)) ∧ mHour (mHours n f) 8 = mClamp (f 8 + -(f 11) * mRains f ((n : Int) + 1)) ∧ mHour (mHours n f) 9 = mClamp (f 9 + -(f 12) * mRains f ((n : Int) + 1))
    have k : ∀ j : Int, 7 ≤ j → mHour (mHours n f) j = if (f 4 + n) % f 3 = 0 then mRain (mHours n f) j else mHours n f j := by
      intro j hj
      unfold mHour u1
      rw [if_neg (by omega), e3, e4]
      split <;> rfl
    rw [k 7 (by omega), k 8 (by omega), k 9 (by omega), hr]
    obtain ⟨m1, m2, m3⟩ := mRain_hi (mHours n f)
    have step : ∀ h s : Int, 0 ≤ h → h ≤ 99 → 0 ≤ s → mClamp (mClamp (h + -s * mRains f n) + -s) = mClamp (h + -s * (mRains f n + 1)) := by
      intro h s h1 h2 h3'
      have hp : 0 ≤ s * mRains f n := Int.mul_nonneg h3' hr0
      have q := clamp2 (h := h) (P := s * mRains f n) (s := s) h2 hp h3'
      rw [Int.neg_mul, Int.neg_mul, Int.mul_add, Int.mul_one]
      exact q
    split
    · rw [m1, m2, m3, e10, e11, e12, ih.1, ih.2.1, ih.2.2]
      exact ⟨step _ _ o1.1 o1.2 o4.1, step _ _ o2.1 o2.2 o5.1, step _ _ o3.1 o3.2 o6.1⟩
    · rw [Int.add_zero]
      exact ih
theorem mSink_at (f : Int → Int) (t : Int) : mSink f t 7 = mClamp (f 7 + -(f 10) * t) ∧ mSink f t 8 = mClamp (f 8 + -(f 11) * t) ∧ mSink f t 9 = mClamp (f 9 + -(f 12) * t) := by
  simp [mSink, mLift, u1]
theorem mSink_o (f : Int → Int) (t : Int) {j : Int} (h : j < 7 ∨ 9 < j) : mSink f t j = f j := by
  simp [mSink, mLift, u1, show j ≠ 7 by omega, show j ≠ 8 by omega, show j ≠ 9 by omega]
/-- sinking at once is the hours one by one, for the feet -/
theorem sink_hours {f : Int → Int} (ho : mOk f) (h3 : 1 ≤ f 3 ∧ f 3 ≤ 9) (h4 : 0 ≤ f 4) (n : Nat) : ∀ j, 7 ≤ j → j ≤ 12 → mHours n f j = mSink f (mRains f n) j := by
  intro j h7 h12
  obtain ⟨a1, a2, a3⟩ := mHours_h ho h3 h4 n
  obtain ⟨b1, b2, b3⟩ := mSink_at f (mRains f n)
  rcases (show j = 7 ∨ j = 8 ∨ j = 9 ∨ 9 < j by omega) with rfl | rfl | rfl | q
  · rw [a1, b1]
  · rw [a2, b2]
  · rw [a3, b3]
  · rw [mHours_o f (by omega), mSink_o f _ (by omega)]
