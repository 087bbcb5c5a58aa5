/-! ===== site: what a tape tells ===== -/
abbrev isd (tp : Int → Int) (tl q : Int) : Prop := q < tl ∧ 48 ≤ tp q ∧ tp q ≤ 57
def dg (tp : Int → Int) (tl : Int) : Nat → Int → Int
  | 0, _ => 0
  | m + 1, p => if isd tp tl p then dg tp tl m (p + 1) + 1 else 0
theorem dg_eq {tp : Int → Int} {tl : Int} : ∀ {m k : Nat} {p : Int}, k ≤ m → (∀ j : Nat, j < k → isd tp tl (p + j)) → ¬ isd tp tl (p + k) → dg tp tl m p = k
  | 0, k, p, h, _, _ => by
    have : k = 0 := by omega
    subst this
    rfl
  | m + 1, k, p, h, h1, h2 => by
    unfold dg
    cases k with
    | zero =>
      rw [show p + ((0 : Nat) : Int) = p by omega] at h2
      rw [if_neg h2]
      rfl
    | succ k =>
      have h0 := h1 0 (by omega)
      rw [show p + ((0 : Nat) : Int) = p by omega] at h0
      rw [if_pos h0, dg_eq (m := m) (k := k) (p := p + 1) (by omega) (fun j hj => by
        have := h1 (j + 1) (by omega)
        rw [show p + ((j + 1 : Nat) : Int) = p + 1 + j by push_cast; omega] at this
        exact this) (by
        rw [show p + ((k + 1 : Nat) : Int) = p + 1 + k by push_cast; omega] at h2
        exact h2)]
      push_cast
      rfl
/-- the number that k figures from p tell; of more than two, the first two -/
def nv (tp : Int → Int) (p k : Int) : Int := if k ≤ 0 then 0 else if k = 1 then tp p - 48 else (tp p - 48) * 10 + tp (p + 1) - 48
/-- (fault, where), after a sign, after a number -/
def tkS (tp : Int → Int) (tl c : Int) (s : Int × Int) : Int × Int := if s.1 = 0 then (if s.2 < tl ∧ tp s.2 = c then (0, s.2 + 1) else (1, s.2)) else s
def nmS (tp : Int → Int) (tl lo hi : Int) (s : Int × Int) : Int × Int := if s.1 = 0 then (if 1 ≤ dg tp tl 120 s.2 ∧ dg tp tl 120 s.2 ≤ 2 then (if lo ≤ nv tp s.2 (dg tp tl 120 s.2) ∧ nv tp s.2 (dg tp tl 120 s.2) ≤ hi then (0, s.2 + dg tp tl 120 s.2) else (2, s.2)) else (1, s.2)) else s
def ntS (tp : Int → Int) (tl lo hi c : Int) (s : Int × Int) : Int × Int := tkS tp tl c (nmS tp tl lo hi s)
def nvS (tp : Int → Int) (tl : Int) (s : Int × Int) : Int := nv tp s.2 (dg tp tl 120 s.2)
/-- the law: egg, bed, rain -/
def laS (tp : Int → Int) (tl : Int) : Int × Int := ntS tp tl 1 9 59 (ntS tp tl 0 9 44 (ntS tp tl 0 9 44 (tkS tp tl 110 (0, 0))))
def laR (tp : Int → Int) (tl : Int) (g : Int → Int) : Int → Int := u1 (u1 (u1 g 1 (nvS tp tl (tkS tp tl 110 (0, 0)))) 2 (nvS tp tl (ntS tp tl 0 9 44 (tkS tp tl 110 (0, 0))))) 3 (nvS tp tl (ntS tp tl 0 9 44 (ntS tp tl 0 9 44 (tkS tp tl 110 (0, 0)))))
/-- one foot -/
def ftS (tp : Int → Int) (tl : Int) (s : Int × Int) : Int × Int := ntS tp tl 0 9 59 (ntS tp tl 0 60 44 (tkS tp tl 119 s))
def ftR (tp : Int → Int) (tl i : Int) (s : Int × Int) (g : Int → Int) : Int → Int := u1 (u1 g (7 + i) (nvS tp tl (tkS tp tl 119 s))) (10 + i) (nvS tp tl (ntS tp tl 0 60 44 (tkS tp tl 119 s)))
def kb (c : Int) : Int := if c = 100 then 1 else if c = 111 then 2 else if c = 115 then 3 else if c = 117 then 4 else if c = 116 then 5 else 0
/-- one deed, whose letter stands at s.2 -/
def deS (tp : Int → Int) (tl : Int) (s : Int × Int) : Int × Int := ntS tp tl 1 20 59 (ntS tp tl 0 2 44 (0, s.2 + 1))
def deR (tp : Int → Int) (tl : Int) (s : Int × Int) (g : Int → Int) : Int → Int := u1 (u1 (u1 (u1 g (13 + 3 * g 5) (kb (tp s.2))) (14 + 3 * g 5) (nvS tp tl (0, s.2 + 1))) (15 + 3 * g 5) (nvS tp tl (ntS tp tl 0 2 44 (0, s.2 + 1)))) 5 (g 5 + 1)
/-- deeds up to the end; m is more than can be -/
def dsL (tp : Int → Int) (tl : Int) : Nat → (Int × Int) × (Int → Int) → (Int × Int) × (Int → Int)
  | 0, z => z
  | m + 1, z => if z.1.1 = 0 then
      (if z.1.2 < tl ∧ kb (tp z.1.2) ≠ 0 then
        (if z.2 5 = 7 then ((3, z.1.2), z.2) else dsL tp tl m (deS tp tl z.1, deR tp tl z.1 z.2))
      else if z.1.2 = tl ∧ 0 < z.2 5 then z
      else (((if z.1.2 < tl ∧ tp z.1.2 = 119 ∧ z.2 5 = 0 then 3 else 1), z.1.2), z.2))
    else z
def g00 : Int → Int := fun j => if j = 0 then 1 else 0
def paS (tp : Int → Int) (tl : Int) : (Int × Int) × (Int → Int) :=
  let s0 := laS tp tl
  let s1 := ftS tp tl s0
  let s2 := ftS tp tl s1
  let s3 := ftS tp tl s2
  dsL tp tl 9 (s3, ftR tp tl 2 s2 (ftR tp tl 1 s1 (ftR tp tl 0 s0 (laR tp tl g00))))
def s_site (A : qA) : Int × qA := if (paS A.2.2.2.2.2.1.1 A.2.2.2.2.2.1.2).1.1 = 0 then ((paS A.2.2.2.2.2.1.1 A.2.2.2.2.2.1.2).2 5, (paS A.2.2.2.2.2.1.1 A.2.2.2.2.2.1.2).2, [], A.2.2.1, A.2.2.2.1, A.2.2.2.2.1, (A.2.2.2.2.2.1.1, 0), A.2.2.2.2.2.2) else (-1000100 - (paS A.2.2.2.2.2.1.1 A.2.2.2.2.2.1.2).1.2, A.1, A.2.1, A.2.2.1, (paS A.2.2.2.2.2.1.1 A.2.2.2.2.2.1.2).1.1, A.2.2.2.2.1, (A.2.2.2.2.2.1.1, 0), A.2.2.2.2.2.2)
theorem dg_in (tp : Int → Int) (tl : Int) : ∀ (m : Nat) (p : Int), 0 ≤ dg tp tl m p ∧ dg tp tl m p ≤ m ∧ (0 < dg tp tl m p → p + dg tp tl m p ≤ tl)
  | 0, p => ⟨Int.le_refl _, Int.le_refl _, fun h => absurd h (by show ¬ (0 : Int) < 0; omega)⟩
  | m + 1, p => by
    have ih := dg_in tp tl m (p + 1)
    unfold dg
    split
    · rename_i h
      refine ⟨by omega, by push_cast; omega, fun _ => ?_⟩
      rcases Int.lt_or_le 0 (dg tp tl m (p + 1)) with q | q
      · have := ih.2.2 q; omega
      · have := h.1; omega
    · exact ⟨Int.le_refl _, by push_cast; omega, fun h => absurd h (by omega)⟩
/-- where a reading stands -/
def sIn (tl : Int) (s : Int × Int) : Prop := (0 ≤ s.1 ∧ s.1 ≤ 3) ∧ 0 ≤ s.2 ∧ s.2 ≤ tl
theorem tkS_in {tp : Int → Int} {tl c : Int} {s : Int × Int} (h : sIn tl s) : sIn tl (tkS tp tl c s) := by
  obtain ⟨h1, h2⟩ := h
  unfold tkS
  split
  · split
    · exact ⟨by show (0 : Int) ≤ 0 ∧ (0 : Int) ≤ 3; omega, by show 0 ≤ s.2 + 1 ∧ s.2 + 1 ≤ tl; omega⟩
    · exact ⟨by show (0 : Int) ≤ 1 ∧ (1 : Int) ≤ 3; omega, h2⟩
  · exact ⟨h1, h2⟩
theorem nmS_in {tp : Int → Int} {tl lo hi : Int} {s : Int × Int} (h : sIn tl s) : sIn tl (nmS tp tl lo hi s) := by
  obtain ⟨h1, h2⟩ := h
  have hd := dg_in tp tl 120 s.2
  unfold nmS
  split
  · split
    · split
      · exact ⟨by show (0 : Int) ≤ 0 ∧ (0 : Int) ≤ 3; omega, by show 0 ≤ s.2 + _ ∧ s.2 + _ ≤ tl; have := hd.2.2 (by omega); omega⟩
      · exact ⟨by show (0 : Int) ≤ 2 ∧ (2 : Int) ≤ 3; omega, h2⟩
    · exact ⟨by show (0 : Int) ≤ 1 ∧ (1 : Int) ≤ 3; omega, h2⟩
  · exact ⟨h1, h2⟩
theorem ntS_in {tp : Int → Int} {tl lo hi c : Int} {s : Int × Int} (h : sIn tl s) : sIn tl (ntS tp tl lo hi c s) := tkS_in (nmS_in h)
/-- a sign, a number that went through -/
theorem tkS_ok {tp : Int → Int} {tl c : Int} {s : Int × Int} (h : (tkS tp tl c s).1 = 0) : s.1 = 0 ∧ s.2 < tl ∧ tp s.2 = c ∧ tkS tp tl c s = (0, s.2 + 1) := by
  unfold tkS at h ⊢
  by_cases c1 : s.1 = 0
  · rw [if_pos c1] at h ⊢
    by_cases c2 : s.2 < tl ∧ tp s.2 = c
    · rw [if_pos c2]; exact ⟨c1, c2.1, c2.2, rfl⟩
    · rw [if_neg c2] at h; exact absurd h (by simp)
  · rw [if_neg c1] at h; exact absurd h c1
theorem nmS_ok {tp : Int → Int} {tl lo hi : Int} {s : Int × Int} (h : (nmS tp tl lo hi s).1 = 0) : s.1 = 0 ∧ (1 ≤ dg tp tl 120 s.2 ∧ dg tp tl 120 s.2 ≤ 2) ∧ (lo ≤ nvS tp tl s ∧ nvS tp tl s ≤ hi) ∧ nmS tp tl lo hi s = (0, s.2 + dg tp tl 120 s.2) := by
  unfold nmS at h ⊢
  by_cases c1 : s.1 = 0
  · rw [if_pos c1] at h ⊢
    by_cases c2 : 1 ≤ dg tp tl 120 s.2 ∧ dg tp tl 120 s.2 ≤ 2
    · rw [if_pos c2] at h ⊢
      by_cases c3 : lo ≤ nv tp s.2 (dg tp tl 120 s.2) ∧ nv tp s.2 (dg tp tl 120 s.2) ≤ hi
      · rw [if_pos c3]; exact ⟨c1, c2, c3, rfl⟩
      · rw [if_neg c3] at h; exact absurd h (by simp)
    · rw [if_neg c2] at h; exact absurd h (by simp)
  · rw [if_neg c1] at h; exact absurd h c1
theorem ntS_ok {tp : Int → Int} {tl lo hi c : Int} {s : Int × Int} (h : (ntS tp tl lo hi c s).1 = 0) : s.1 = 0 ∧ lo ≤ nvS tp tl s ∧ nvS tp tl s ≤ hi := by
  have h1 := tkS_ok h
  have h2 := nmS_ok h1.1
  exact ⟨h2.1, h2.2.2.1⟩
theorem tkS_f {tp : Int → Int} {tl c : Int} {s : Int × Int} (h : s.1 ≠ 0) : tkS tp tl c s = s := if_neg h
theorem nmS_f {tp : Int → Int} {tl lo hi : Int} {s : Int × Int} (h : s.1 ≠ 0) : nmS tp tl lo hi s = s := if_neg h
theorem ntS_f {tp : Int → Int} {tl lo hi c : Int} {s : Int × Int} (h : s.1 ≠ 0) : ntS tp tl lo hi c s = s := by
  unfold ntS
  rw [nmS_f h, tkS_f h]
