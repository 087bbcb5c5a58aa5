/-! ===== what is asked: the answers ===== -/
def s_foot (A : qA) (i w : Int) : Int × qA := (if A.1 0 = 1 then (if 0 ≤ i ∧ i ≤ 2 then (if w = 0 then A.1 (7 + i) else if w = 1 then A.1 (10 + i) else -1000001) else -1000001) else -1000002, A)
def s_deed (A : qA) (i w : Int) : Int × qA := (if 0 ≤ i ∧ i < A.1 5 then (if w = 0 then A.1 (14 + 3 * i) else if w = 1 then A.1 (15 + 3 * i) else if w = 2 then bi (mDone A.1 i) else -1000001) else -1000001, A)
def s_lean (A : qA) (w : Int) : Int × qA := (if A.1 0 = 1 then (if w = 0 then mSide A.1 + 1000 else if w = 1 then mAlong A.1 + 1000 else if w = 2 then mMid A.1 else if w = 3 then mAwry A.1 else if w = 4 then bi (mLevel A.1) else if w = 5 then A.1 6 else -1000001) else -1000002, A)
def s_ahead (A : qA) (i n : Int) : Int × qA := (if A.1 0 = 1 then (if (0 ≤ i ∧ i ≤ 2) ∧ (0 ≤ n ∧ n ≤ 60) then mHours n.toNat A.1 (7 + i) else -1000001) else -1000002, A)
def s_leanAhead (A : qA) (n w : Int) : Int × qA := (if A.1 0 = 1 then (if (0 ≤ n ∧ n ≤ 60) ∧ (0 ≤ w ∧ w ≤ 1) then (if w = 0 then mSide (mHours n.toNat A.1) else mAlong (mHours n.toNat A.1)) + 1000 else -1000001) else -1000002, A)
def s_lasts (A : qA) : Int × qA := (if A.1 0 = 1 then mUntil A.1 0 61 0 else -1000002, A)
def s_first (A : qA) : Int × qA := (if A.1 0 = 1 then (if 60 < mUntil A.1 1 61 0 then -1000000 else mUntil A.1 1 61 0) else -1000002, A)
def s_attempt (A : qA) (i : Int) : Int × qA := (if 0 ≤ i ∧ i < A.1 5 then (if mDone A.1 i then -1000002 else mTry A.1 i) else -1000001, A)
def s_best (A : qA) (w : Int) : Int × qA := (if A.1 0 = 1 then (if 0 ≤ w ∧ w ≤ 1 then (if w = 0 then (mBest A.1 (A.1 5).toNat).1 else (mBest A.1 (A.1 5).toNat).2) else -1000001) else -1000002, A)
def s_worst (A : qA) (n w : Int) : Int × qA := (if A.1 0 = 1 then (if (0 ≤ n ∧ n ≤ 60) ∧ (0 ≤ w ∧ w ≤ 1) then (if w = 0 then (mWorst A.1 (n + 1).toNat).1 else (mWorst A.1 (n + 1).toNat).2) else -1000001) else -1000002, A)
def s_fault (A : qA) : Int × qA := (A.2.2.2.1, A)
def s_status (A : qA) : Int × qA := (A.2.2.1, A)
def s_kind (A : qA) (i : Int) : Int × qA := (if 0 ≤ i ∧ i < A.1 5 then A.1 (13 + 3 * i) else -1000001, A)
def s_trace (A : qA) (i : Int) : Int × qA := (if 0 ≤ i ∧ i < A.2.2.2.2.2.2.2.2 then A.2.2.2.2.2.2.2.1 i else -1000000, A)
def s_count (A : qA) (w : Int) : Int × qA := (if w = 0 then mCnt A.2.2.2.2.1.1 8 else if w = 1 then A.1 5 else if w = 2 then A.1 6 else if w = 3 then A.1 4 else if w = 4 then mAwry A.1 else if w = 5 then A.1 7 + A.1 8 + A.1 9 else if w = 6 then A.2.1.length else if w = 7 then A.2.2.2.2.2.1.2 else -1000001, A)
theorem pC.q {σ σ1 : qM} {A : qA} {v r : Int} {S : List Nat} (h : CR σ A) (hF : Fr σ σ1 S) (hS : scrC S) (e : v = r) : pC σ (v, A) r σ1 := by subst e; exact pC.same h hF hS
theorem pC.q0 {σ : qM} {A : qA} {v r : Int} (h : CR σ A) (e : v = r) : pC σ (v, A) r σ := by subst e; exact pC.id h
theorem pM.q {σ τ σ1 : qM} {A : qA} {v r : Int} {S : List Nat} (hF0 : ∀ j, j < 82 → τ j = σ j) (h : MR τ A) (hF : Fr τ σ1 S) (hS : scrM S) (e : v = r) : pM σ (v, A) r σ1 := by
  subst e
  exact ⟨A, rfl, fun j hj => by rw [hF j (fun q => by have := hS j q; omega), hF0 j hj], h.fr hF hS⟩
theorem pM.q0 {σ τ : qM} {A : qA} {v r : Int} (hF0 : ∀ j, j < 82 → τ j = σ j) (h : MR τ A) (e : v = r) : pM σ (v, A) r τ := by
  subst e
  exact ⟨A, rfl, hF0, h⟩
theorem AV.row {A : qA} (h : AV A) : Row A.1 := h.1
theorem CR.H {σ : qM} {A : qA} (h : CR σ A) (hV : AV A) (h1 : A.1 0 = 1) : Hr σ A.1 := ⟨h.1, hV.1, h1⟩
theorem Row.f0 {f : Int → Int} (h : Row f) : f 0 = 0 ∨ f 0 = 1 := h.2.2.2.2.1
theorem Row.law {f : Int → Int} (h : Row f) (h1 : f 0 = 1) : (0 ≤ f 1 ∧ f 1 ≤ 9) ∧ (0 ≤ f 2 ∧ f 2 ≤ 9) ∧ (1 ≤ f 3 ∧ f 3 ≤ 9) ∧ 1 ≤ f 5 := h.2.2.2.2.2.2.1 h1
theorem Row.one {f : Int → Int} (h : Row f) {i : Int} (h0 : 0 ≤ i) (h1 : i < f 5) : f 0 = 1 := by
  rcases h.f0 with q | q
  · have := h.2.2.2.2.2.1 q
    omega
  · exact q
theorem mBest_2 {f : Int → Int} : ∀ k : Nat, (mBest f k).1 = -1000000 → (mBest f k).2 = -1000000
  | 0, _ => rfl
  | k + 1, h => by
    unfold mBest at h ⊢
    split at h
    · rw [if_pos (by assumption)]
      exact mBest_2 k h
    · rw [if_neg (by assumption)]
      split at h
      · simp only at h; omega
      · rw [if_neg (by assumption)]
        exact mBest_2 k h
theorem mWorst_eq {f : Int → Int} (ho : mOk f) : ∀ t : Nat, (mWorst f (t + 1)).1 = mAwry (mHours (mWorst f (t + 1)).2.toNat f)
  | 0 => by
    have := mAwry_in ho
    show (if (-1 : Int) < mAwry (mHours 0 f) then (mAwry (mHours 0 f), ((0 : Nat) : Int)) else (-1, 0)).1 = mAwry (mHours (if (-1 : Int) < mAwry (mHours 0 f) then (mAwry (mHours 0 f), ((0 : Nat) : Int)) else (-1, 0)).2.toNat f)
    rw [if_pos (by show -1 < mAwry f; omega)]
    rfl
  | t + 1 => by
    have ih := mWorst_eq ho t
    have e : mWorst f (t + 1 + 1) = if (mWorst f (t + 1)).1 < mAwry (mHours (t + 1) f) then (mAwry (mHours (t + 1) f), ((t + 1 : Nat) : Int)) else mWorst f (t + 1) := rfl
    rw [e]
    split
    · simp only [Int.toNat_natCast]
    · exact ih
theorem mUntil_in (f : Int → Int) (w : Int) : ∀ m k : Nat, (k : Int) ≤ mUntil f w m k ∧ mUntil f w m k ≤ k + m
  | 0, k => by simp [mUntil]
  | m + 1, k => by
    have := mUntil_in f w m (k + 1)
    unfold mUntil
    split <;> omega
