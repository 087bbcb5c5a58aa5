/-! ===== fields, arrays, calls, returns of the small world ===== -/
/-- a class of the world: its number, name, table, how many fields, their types -/
def qC (ci : Nat) (C : String) (T : u_T) (N : Nat) (ty : Nat → FieldType) : Prop :=
  vwCl[ci]? = some (C, T, N) ∧ (∀ w ∈ u_ws C T N, w ∈ wsL_law) ∧ (∀ k, k < N → parseFieldDescriptor (T k).2.2.1 = some (ty k)) ∧ (∀ a, a < N → ∀ b, b < N → a ≠ b → (T a).2.1 ≠ (T b).2.1)
theorem qC0 : qC 0 RX0 TX0 3 tyX0 := ⟨rfl, inlX0, tyX0_ok, nmX0⟩
theorem qC1 : qC 1 RX1 TX1 2 tyX1 := ⟨rfl, inlX1, tyX1_ok, nmX1⟩
theorem qC2 : qC 2 RX2 TX2 5 tyX2 := ⟨rfl, inlX2, tyX2_ok, nmX2⟩
theorem qC3 : qC 3 RX3 TX3 3 tyX3 := ⟨rfl, inlX3, tyX3_ok, nmX3⟩
theorem qC4 : qC 4 RX4 TX4 11 tyX4 := ⟨rfl, inlX4, tyX4_ok, nmX4⟩
theorem qC5 : qC 5 RX5 TX5 2 tyX5 := ⟨rfl, inlX5, tyX5_ok, nmX5⟩
theorem qC6 : qC 6 RX6 TX6 4 tyX6 := ⟨rfl, inlX6, tyX6_ok, nmX6⟩
theorem qC7 : qC 7 RX7 TX7 10 tyX7 := ⟨rfl, inlX7, tyX7_ok, nmX7⟩
theorem qC8 : qC 8 RX8 TX8 25 tyX8 := ⟨rfl, inlX8, tyX8_ok, nmX8⟩
/-- entry idx of class own's pool is field j of class ci -/
def qF (own : String) (idx ci j : Nat) : Prop := ∃ (C : String) (T : u_T) (N : Nat) (ty : Nat → FieldType), qC ci C T N ty ∧ j < N ∧ Cond.fieldLink own idx (T j).1 (T j).2.1 (T j).2.2.1 ∈ wsL_law
/-- and may be written; a boolean, if b -/
def qFw (own : String) (idx ci j : Nat) (b : Bool) : Prop := ∃ (C : String) (T : u_T) (N : Nat) (ty : Nat → FieldType), qC ci C T N ty ∧ j < N ∧ Cond.fieldLink own idx (T j).1 (T j).2.1 (T j).2.2.1 ∈ wsL_law ∧ (T j).2.2.2 = false ∧ parseFieldDescriptor (T j).2.2.1 = some (if b then .boolean else .int)
theorem qfs_len (ad : Nat → Nat) (f : Int → Int) : ∀ (fs : List (Option Nat)) (i : Nat), (qfs ad f i fs).length = fs.length
  | [], _ => rfl
  | some k :: r, i => by simp [qfs, qfs_len ad f r (i + 1)]
  | none :: r, i => by simp [qfs, qfs_len ad f r (i + 1)]
theorem qfs_at (ad : Nat → Nat) (f : Int → Int) : ∀ (fs : List (Option Nat)) (i j : Nat) (x : Option Nat), fs[j]? = some x → (qfs ad f i fs)[j]? = some (match x with | some k => .ref (ad k) | none => .int (Int32.ofInt (f ((i + j : Nat) : Int))))
  | [], _, _, _, h => by simp at h
  | some k :: r, i, 0, x, h => by
    rw [List.getElem?_cons_zero] at h
    cases h
    rfl
  | none :: r, i, 0, x, h => by
    rw [List.getElem?_cons_zero] at h
    cases h
    rfl
  | some k :: r, i, j + 1, x, h => by
    rw [List.getElem?_cons_succ] at h
    have := qfs_at ad f r (i + 1) j x h
    rw [show i + 1 + j = i + (j + 1) by omega] at this
    simpa [qfs] using this
  | none :: r, i, j + 1, x, h => by
    rw [List.getElem?_cons_succ] at h
    have := qfs_at ad f r (i + 1) j x h
    rw [show i + 1 + j = i + (j + 1) by omega] at this
    simpa [qfs] using this
theorem qfs_set (ad : Nat → Nat) (f : Int → Int) (v : Int) : ∀ (fs : List (Option Nat)) (i j : Nat), fs[j]? = some none → (qfs ad f i fs).set j (.int (Int32.ofInt v)) = qfs ad (fun q => if q = ((i + j : Nat) : Int) then v else f q) i fs := by
  have keep : ∀ (fs : List (Option Nat)) (i : Nat) (g : Int → Int), (∀ q : Nat, i ≤ q → g q = f q) → qfs ad g i fs = qfs ad f i fs := by
    intro fs
    induction fs with
    | nil => intro i g _; rfl
    | cons x r ih =>
      intro i g h
      cases x with
      | some k => simp only [qfs]; rw [ih (i + 1) g (fun q hq => h q (by omega))]
      | none => simp only [qfs]; rw [ih (i + 1) g (fun q hq => h q (by omega)), h i (Nat.le_refl i)]
  intro fs
  induction fs with
  | nil => intro i j h; simp at h
  | cons x r ih =>
    intro i j h
    cases j with
    | zero =>
      rw [List.getElem?_cons_zero] at h
      cases h
      simp only [qfs, List.set_cons_zero]
      rw [keep r (i + 1) _ (fun q hq => by rw [if_neg]; omega)]
      simp
    | succ j =>
      rw [List.getElem?_cons_succ] at h
      have h1 := ih (i + 1) j h
      rw [show i + 1 + j = i + (j + 1) by omega] at h1
      cases x with
      | some k => simp only [qfs, List.set_cons_succ]; rw [h1]
      | none => simp only [qfs, List.set_cons_succ]; rw [h1, if_neg]; omega
theorem qcell_0 {cA : Nat → ClassId} {ad : Nat → Nat} {σ : qM} {k c : Nat} {fs : List (Option Nat)} (h : qSh k = (0, c, fs)) : qcell cA ad σ k = .inr (c, qfs ad (σ k) 0 fs) := by
  unfold qcell; rw [h]
theorem qcell_1 {cA : Nat → ClassId} {ad : Nat → Nat} {σ : qM} {k n : Nat} {fs : List (Option Nat)} (h : qSh k = (1, n, fs)) : qcell cA ad σ k = .inl (cA 1, n, .inl (fun j => Int32.ofInt (σ k j))) := by
  unfold qcell; rw [h]
theorem qcell_2 {cA : Nat → ClassId} {ad : Nat → Nat} {σ : qM} {k n : Nat} {fs : List (Option Nat)} (h : qSh k = (2, n, fs)) : qcell cA ad σ k = .inl (cA 2, n, .inl (fun j => Int32.ofInt (σ k j))) := by
  unfold qcell; rw [h]
theorem qSh_small : ∀ k, k < 96 → (qSh k).2.1 ≤ 1000 := by decide +kernel
theorem qSh_n {k t n : Nat} {fs : List (Option Nat)} (h : qSh k = (t, n, fs)) (ht : t ≠ 9) : n ≤ 1000 := by
  have := qSh_small k (qSh_lt h ht)
  rwa [h] at this
/-- a write within the world, seen from its outside -/
theorem qS_out {G : qGl} {σ : qM} {U : State} {H : Heap} {k q : Nat} (hk : k < 96) (hq : ¬ qS G q) : q ≠ G.2.2.2.1 k := fun e => hq ⟨k, hk, e⟩
section QH
variable {G : qGl} {y : qY} {d pc : Nat} {L : List (Nat × qV)} {st : List qV} {σ : qM} {Q : Option qV → qM → Prop} {a b : Int}
theorem q_getI {idx ci j k : Nat} {fs : List (Option Nat)} (hd : decode y.2.1 pc = .ok (.getfield idx, 3)) (hF : qF y.1.cls idx ci j) (hs : qSh k = (0, ci, fs)) (hj : fs[j]? = some none) (kk : qE G y d (pc + 3) L (.inl (σ k j) :: st) σ Q) : qE G y d pc L (.inr (.inr k) :: st) σ Q := by
  intro p e R s m args below meth c H locs k' n' ls C Wd S hl
  obtain ⟨cn, T, N, ty, ⟨c1, c2, c3, c4⟩, hjN, hw⟩ := hF
  have hk := qSh_lt hs (by decide)
  have he := qwld_at (cA := G.2.2.1) (ad := G.2.2.2.1) (σ := σ) hk
  rw [qcell_0 hs] at he
  have hv := qfs_at G.2.2.2.1 (σ k) fs 0 j none hj
  rw [Nat.zero_add] at hv
  exact va_get C.1 C.2.1 C.2.2.2.2.2.2.1 c2 C.2.2.2.2.2.1 Wd.2.1 Wd.1 k he c1 j hjN (C.2.2.2.2.2.2.1 _ hw) (fun x h => h) hv hd (kk p e R s m args below meth c H locs k' n' ls C Wd S hl)
theorem q_getR {idx ci j k k2 : Nat} {fs : List (Option Nat)} (hd : decode y.2.1 pc = .ok (.getfield idx, 3)) (hF : qF y.1.cls idx ci j) (hs : qSh k = (0, ci, fs)) (hj : fs[j]? = some (some k2)) (kk : qE G y d (pc + 3) L (.inr (.inr k2) :: st) σ Q) : qE G y d pc L (.inr (.inr k) :: st) σ Q := by
  intro p e R s m args below meth c H locs k' n' ls C Wd S hl
  obtain ⟨cn, T, N, ty, ⟨c1, c2, c3, c4⟩, hjN, hw⟩ := hF
  have hk := qSh_lt hs (by decide)
  have he := qwld_at (cA := G.2.2.1) (ad := G.2.2.2.1) (σ := σ) hk
  rw [qcell_0 hs] at he
  have hv := qfs_at G.2.2.2.1 (σ k) fs 0 j (some k2) hj
  exact va_get C.1 C.2.1 C.2.2.2.2.2.2.1 c2 C.2.2.2.2.2.1 Wd.2.1 Wd.1 k he c1 j hjN (C.2.2.2.2.2.2.1 _ hw) (fun x h => h) hv hd (kk p e R s m args below meth c H locs k' n' ls C Wd S hl)
theorem q_putx {idx ci j k : Nat} {fs : List (Option Nat)} {bb : Bool} (hd : decode y.2.1 pc = .ok (.putfield idx, 3)) (hF : qFw y.1.cls idx ci j bb) (hs : qSh k = (0, ci, fs)) (hj : fs[j]? = some none) (hb : bb = true → a = 0 ∨ a = 1) (kk : qE G y d (pc + 3) L st (up σ k j a) Q) : qE G y d pc L (.inl a :: .inr (.inr k) :: st) σ Q := by
  intro p e R s m args below meth c H locs k' n' ls C Wd S hl
  obtain ⟨cn, T, N, ty, ⟨c1, c2, c3, c4⟩, hjN, hw, hfin, hty⟩ := hF
  have hk := qSh_lt hs (by decide)
  have he := qwld_at (cA := G.2.2.1) (ad := G.2.2.2.1) (σ := σ) hk
  rw [qcell_0 hs] at he
  have hjl : j < (qfs G.2.2.2.1 (σ k) 0 fs).length := by rw [qfs_len]; exact (List.getElem?_eq_some_iff.mp hj).1
  have hnf : narrow (if bb then .boolean else .int) (.int (Int32.ofInt a)) = .int (Int32.ofInt a) ∧ fits (if bb then .boolean else .int) (.int (Int32.ofInt a)) = true := by
    cases bb with
    | false => exact ⟨rfl, rfl⟩
    | true =>
      rcases hb rfl with rfl | rfl
      · exact ⟨by decide +kernel, by decide +kernel⟩
      · exact ⟨by decide +kernel, by decide +kernel⟩
  refine va_put (a := G.2.2.2.1 k) C.1 C.2.1 C.2.2.2.2.2.2.1 c2 ty c3 c4 C.2.2.2.2.2.1 Wd.2.1 Wd.1 Wd.D S k he c1 j hjN (C.2.2.2.2.2.2.1 _ hw) (fun x h => h) hfin hty hnf.1 hnf.2 hjl hd (fun H1 locs1 hP1 hD1 hS1 => ?_)
  have hset : (qwld G.2.2.1 G.2.2.2.1 σ).set k (G.2.2.2.1 k, .inr (ci, (qfs G.2.2.2.1 (σ k) 0 fs).set j (.int (Int32.ofInt a)))) = qwld G.2.2.1 G.2.2.2.1 (up σ k j a) := by
    refine qwld_set (fun j' h => up_ne h) ?_
    rw [qcell_0 hs, qfs_set G.2.2.2.1 (σ k) a fs 0 j hj, Nat.zero_add]
    have e1 : up σ k j a k = fun q => if q = (j : Int) then a else σ k q := by
      funext q
      exact up_same
    rw [e1]
  rw [hset] at hP1
  exact kk p e R s m args below meth c H1 locs1 k' n' ls C (Wd.wroteS S hS1 hP1) hS1 hl
end QH
