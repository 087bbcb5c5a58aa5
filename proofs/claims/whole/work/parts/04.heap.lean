/-! ===== fields, arrays, calls, returns of the small world ===== -/
/-- a class of the world: its number, name, table, how many fields, their types -/
def qC (ci : Nat) (C : String) (T : u_T) (N : Nat) (ty : Nat → FieldType) : Prop :=
  vwCl[ci]? = some (C, T, N) ∧ (∀ w ∈ u_ws C T N, w ∈ TB) ∧ (∀ k, k < N → parseFieldDescriptor (T k).2.2.1 = some (ty k)) ∧ (∀ a, a < N → ∀ b, b < N → a ≠ b → (T a).2.1 ≠ (T b).2.1)
theorem qC0 : qC 0 RX0 TX0 3 tyX0 := ⟨rfl, inlX0, tyX0_ok, nmX0⟩
theorem qC1 : qC 1 RX1 TX1 2 tyX1 := ⟨rfl, inlX1, tyX1_ok, nmX1⟩
theorem qC2 : qC 2 RX2 TX2 5 tyX2 := ⟨rfl, inlX2, tyX2_ok, nmX2⟩
theorem qC3 : qC 3 RX3 TX3 3 tyX3 := ⟨rfl, inlX3, tyX3_ok, nmX3⟩
theorem qC4 : qC 4 RX4 TX4 11 tyX4 := ⟨rfl, inlX4, tyX4_ok, nmX4⟩
theorem qC5 : qC 5 RX5 TX5 2 tyX5 := ⟨rfl, inlX5, tyX5_ok, nmX5⟩
theorem qC6 : qC 6 RX6 TX6 4 tyX6 := ⟨rfl, inlX6, tyX6_ok, nmX6⟩
theorem qC7 : qC 7 RX7 TX7 10 tyX7 := ⟨rfl, inlX7, tyX7_ok, nmX7⟩
theorem qC8 : qC 8 RX8 TX8 25 tyX8 := ⟨rfl, inlX8, tyX8_ok, nmX8⟩
/-- entry idx of class own's pool is field j of class ci -/
def qF (own : String) (idx ci j : Nat) : Prop := ∃ (C : String) (T : u_T) (N : Nat) (ty : Nat → FieldType), qC ci C T N ty ∧ j < N ∧ Cond.fieldLink own idx (T j).1 (T j).2.1 (T j).2.2.1 ∈ TB
/-- and may be written; a boolean, if b -/
def qFw (own : String) (idx ci j : Nat) (b : Bool) : Prop := ∃ (C : String) (T : u_T) (N : Nat) (ty : Nat → FieldType), qC ci C T N ty ∧ j < N ∧ Cond.fieldLink own idx (T j).1 (T j).2.1 (T j).2.2.1 ∈ TB ∧ (T j).2.2.2 = false ∧ parseFieldDescriptor (T j).2.2.1 = some (if b then .boolean else .int)
theorem qfs_len (ad : Nat → Nat) (f : Int → Int) : ∀ (fs : List (Option Nat)) (i : Nat), (qfs ad f i fs).length = fs.length
  | [], _ => rfl
  | some k :: r, i => by simp [qfs, qfs_len ad f r (i + 1)]
  | none :: r, i => by simp [qfs, qfs_len ad f r (i + 1)]
theorem qfs_at (ad : Nat → Nat) (f : Int → Int) : ∀ (fs : List (Option Nat)) (i j : Nat) (x : Option Nat), fs[j]? = some x → (qfs ad f i fs)[j]? = some (match x with | some k => .ref (ad k) | none => .int (Int32.ofInt (f ((i + j : Nat) : Int))))
  | [], _, _, _, h => by simp at h
  | some k :: r, i, 0, x, h => by
    rw [List.getElem?_cons_zero] at h
    cases h
    rfl
  | none :: r, i, 0, x, h => by
    rw [List.getElem?_cons_zero] at h
    cases h
    rfl
  | some k :: r, i, j + 1, x, h => by
    rw [List.getElem?_cons_succ] at h
    have := qfs_at ad f r (i + 1) j x h
    rw [show i + 1 + j = i + (j + 1) by omega] at this
    simpa [qfs] using this
  | none :: r, i, j + 1, x, h => by
    rw [List.getElem?_cons_succ] at h
    have := qfs_at ad f r (i + 1) j x h
    rw [show i + 1 + j = i + (j + 1) by omega] at this
    simpa [qfs] using this
theorem qfs_set (ad : Nat → Nat) (f : Int → Int) (v : Int) : ∀ (fs : List (Option Nat)) (i j : Nat), fs[j]? = some none → (qfs ad f i fs).set j (.int (Int32.ofInt v)) = qfs ad (fun q => if q = ((i + j : Nat) : Int) then v else f q) i fs := by
  have keep : ∀ (fs : List (Option Nat)) (i : Nat) (g : Int → Int), (∀ q : Nat, i ≤ q → g q = f q) → qfs ad g i fs = qfs ad f i fs := by
    intro fs
    induction fs with
    | nil => intro i g _; rfl
    | cons x r ih =>
      intro i g h
      cases x with
      | some k => simp only [qfs]; rw [ih (i + 1) g (fun q hq => h q (by omega))]
      | none => simp only [qfs]; rw [ih (i + 1) g (fun q hq => h q (by omega)), h i (Nat.le_refl i)]
  intro fs
  induction fs with
  | nil => intro i j h; simp at h
  | cons x r ih =>
    intro i j h
    cases j with
    | zero =>
      rw [List.getElem?_cons_zero] at h
      cases h
      simp only [qfs, List.set_cons_zero]
      rw [keep r (i + 1) (fun q => if q = ((i + 0 : Nat) : Int) then v else f q) (fun q hq => if_neg (by omega))]
      simp
    | succ j =>
      rw [List.getElem?_cons_succ] at h
      have h1 := ih (i + 1) j h
      rw [show i + 1 + j = i + (j + 1) by omega] at h1
      cases x with
      | some k => simp only [qfs, List.set_cons_succ]; rw [h1]
      | none => simp only [qfs, List.set_cons_succ]; rw [h1, if_neg]; omega
theorem qcell_0 {cA : Nat → ClassId} {ad : Nat → Nat} {σ : qM} {k c : Nat} {fs : List (Option Nat)} (h : qSh k = (0, c, fs)) : qcell cA ad σ k = .inr (c, qfs ad (σ k) 0 fs) := by
  unfold qcell; rw [h]; rfl
theorem qcell_1 {cA : Nat → ClassId} {ad : Nat → Nat} {σ : qM} {k n : Nat} {fs : List (Option Nat)} (h : qSh k = (1, n, fs)) : qcell cA ad σ k = .inl (cA 1, n, .inl (fun j => Int32.ofInt (σ k j))) := by
  unfold qcell; rw [h]; rfl
theorem qcell_2 {cA : Nat → ClassId} {ad : Nat → Nat} {σ : qM} {k n : Nat} {fs : List (Option Nat)} (h : qSh k = (2, n, fs)) : qcell cA ad σ k = .inl (cA 2, n, .inl (fun j => Int32.ofInt (σ k j))) := by
  unfold qcell; rw [h]; rfl
theorem qSh_small : ∀ k, k < 96 → (qSh k).2.1 ≤ 1000 := by decide +kernel
theorem qSh_n {k t n : Nat} {fs : List (Option Nat)} (h : qSh k = (t, n, fs)) (ht : t ≠ 9) : n ≤ 1000 := by
  have := qSh_small k (qSh_lt h ht)
  rwa [h] at this
section QH
variable {G : qGl} {y : qY} {d pc : Nat} {L : List (Nat × qV)} {st : List qV} {σ : qM} {Q : Option qV → qM → Prop} {a b : Int}
theorem q_getI {idx ci j k : Nat} {fs : List (Option Nat)} (hd : decode y.2.1 pc = .ok (.getfield idx, 3)) (hF : qF y.1.cls idx ci j) (hs : qSh k = (0, ci, fs)) (hj : fs[j]? = some none) (kk : qE G y d (pc + 3) L (.inl (σ k j) :: st) σ Q) : qE G y d pc L (.inr (.inr k) :: st) σ Q := by
  intro p e R s m args below meth c H locs k' n' ls C Ws Wd S hl
  obtain ⟨cn, T, N, ty, ⟨c1, c2, c3, c4⟩, hjN, hw⟩ := hF
  have hk := qSh_lt hs (by decide)
  have he := qwld_at (cA := G.2.2.1) (ad := G.2.2.2.1) (σ := σ) hk
  rw [qcell_0 hs] at he
  have hv := qfs_at G.2.2.2.1 (σ k) fs 0 j none hj
  rw [Nat.zero_add] at hv
  exact va_get C.1 C.2.1 C.2.2.2.2.2.2.1 c2 C.2.2.2.2.2.1 Wd.2.1 Wd.1 k he c1 j hjN (C.2.2.2.2.2.2.1 _ hw) (fun x h => h) hv hd (kk p e R s m args below meth c H locs k' n' ls C Ws Wd S hl)
theorem q_getR {idx ci j k k2 : Nat} {fs : List (Option Nat)} (hd : decode y.2.1 pc = .ok (.getfield idx, 3)) (hF : qF y.1.cls idx ci j) (hs : qSh k = (0, ci, fs)) (hj : fs[j]? = some (some k2)) (kk : qE G y d (pc + 3) L (.inr (.inr k2) :: st) σ Q) : qE G y d pc L (.inr (.inr k) :: st) σ Q := by
  intro p e R s m args below meth c H locs k' n' ls C Ws Wd S hl
  obtain ⟨cn, T, N, ty, ⟨c1, c2, c3, c4⟩, hjN, hw⟩ := hF
  have hk := qSh_lt hs (by decide)
  have he := qwld_at (cA := G.2.2.1) (ad := G.2.2.2.1) (σ := σ) hk
  rw [qcell_0 hs] at he
  have hv := qfs_at G.2.2.2.1 (σ k) fs 0 j (some k2) hj
  exact va_get C.1 C.2.1 C.2.2.2.2.2.2.1 c2 C.2.2.2.2.2.1 Wd.2.1 Wd.1 k he c1 j hjN (C.2.2.2.2.2.2.1 _ hw) (fun x h => h) hv hd (kk p e R s m args below meth c H locs k' n' ls C Ws Wd S hl)
theorem q_putx {idx ci j k : Nat} {fs : List (Option Nat)} {bb : Bool} (hd : decode y.2.1 pc = .ok (.putfield idx, 3)) (hF : qFw y.1.cls idx ci j bb) (hs : qSh k = (0, ci, fs)) (hj : fs[j]? = some none) (hb : bb = true → a = 0 ∨ a = 1) (kk : qE G y d (pc + 3) L st (up σ k j a) Q) : qE G y d pc L (.inl a :: .inr (.inr k) :: st) σ Q := by
  intro p e R s m args below meth c H locs k' n' ls C Ws Wd S hl
  obtain ⟨cn, T, N, ty, ⟨c1, c2, c3, c4⟩, hjN, hw, hfin, hty⟩ := hF
  have hk := qSh_lt hs (by decide)
  have he := qwld_at (cA := G.2.2.1) (ad := G.2.2.2.1) (σ := σ) hk
  rw [qcell_0 hs] at he
  have hjl : j < (qfs G.2.2.2.1 (σ k) 0 fs).length := by rw [qfs_len]; exact (List.getElem?_eq_some_iff.mp hj).1
  have hnf : narrow (if bb then .boolean else .int) (.int (Int32.ofInt a)) = .int (Int32.ofInt a) ∧ fits (if bb then .boolean else .int) (.int (Int32.ofInt a)) = true := by
    cases bb with
    | false => exact ⟨rfl, rfl⟩
    | true =>
      rcases hb rfl with rfl | rfl
      · exact ⟨by decide +kernel, by decide +kernel⟩
      · exact ⟨by decide +kernel, by decide +kernel⟩
  refine va_put (a := G.2.2.2.1 k) C.1 C.2.1 C.2.2.2.2.2.2.1 c2 ty c3 c4 C.2.2.2.2.2.1 Wd.2.1 Wd.1 Wd.D S k he c1 j hjN (C.2.2.2.2.2.2.1 _ hw) (fun x h => h) hfin hty hnf.1 hnf.2 hjl hd (fun H1 locs1 hP1 hD1 hS1 => ?_)
  have hset : (qwld G.2.2.1 G.2.2.2.1 σ).set k (G.2.2.2.1 k, .inr (ci, (qfs G.2.2.2.1 (σ k) 0 fs).set j (.int (Int32.ofInt a)))) = qwld G.2.2.1 G.2.2.2.1 (up σ k j a) := by
    refine qwld_set (fun j' h => up_ne h) ?_
    rw [qcell_0 hs, qfs_set G.2.2.2.1 (σ k) a fs 0 j hj, Nat.zero_add]
    have e1 : up σ k j a k = fun q => if q = (j : Int) then a else σ k q := by
      funext q
      exact up_same
    rw [e1]
  exact kk p e R s m args below meth c H1 locs1 k' n' ls C Ws ⟨by rw [← hset]; exact hP1, Wd.2.1, Wd.2.2⟩ hS1 hl
end QH
section QAR
variable {G : qGl} {y : qY} {d pc : Nat} {L : List (Nat × qV)} {st : List qV} {σ : qM} {Q : Option qV → qM → Prop} {a b : Int}
theorem q_iald {k n : Nat} {fs : List (Option Nat)} (hd : decode y.2.1 pc = .ok (.iaload, 1)) (hs : qSh k = (1, n, fs)) (h0 : 0 ≤ a ∧ a < n) (kk : qE G y d (pc + 1) L (.inl (σ k a) :: st) σ Q) : qE G y d pc L (.inl a :: .inr (.inr k) :: st) σ Q := by
  intro p e R s m args below meth c H locs k' n' ls C Ws Wd S hl
  have hk := qSh_lt hs (by decide)
  have hn := qSh_n hs (by decide)
  have he := qwld_at (cA := G.2.2.1) (ad := G.2.2.2.1) (σ := σ) hk
  rw [qcell_1 hs] at he
  refine va_iald C.1 C.2.1 Wd.2.1 Wd.1 k 0 he rfl (qI_in h0.1 h0.2 (by omega)) hd ?_
  rw [qI_cl h0.1 (by omega), Int.toNat_of_nonneg h0.1]
  exact kk p e R s m args below meth c H locs k' n' ls C Ws Wd S hl
theorem q_zald {k n : Nat} {fs : List (Option Nat)} (hd : decode y.2.1 pc = .ok (.baload, 1)) (hs : qSh k = (2, n, fs)) (h0 : 0 ≤ a ∧ a < n) (kk : qE G y d (pc + 1) L (.inl (σ k a) :: st) σ Q) : qE G y d pc L (.inl a :: .inr (.inr k) :: st) σ Q := by
  intro p e R s m args below meth c H locs k' n' ls C Ws Wd S hl
  have hk := qSh_lt hs (by decide)
  have hn := qSh_n hs (by decide)
  have he := qwld_at (cA := G.2.2.1) (ad := G.2.2.2.1) (σ := σ) hk
  rw [qcell_2 hs] at he
  refine va_zald C.1 C.2.1 Wd.2.1 Wd.1 k 1 he rfl (qI_in h0.1 h0.2 (by omega)) hd ?_
  rw [qI_cl h0.1 (by omega), Int.toNat_of_nonneg h0.1]
  exact kk p e R s m args below meth c H locs k' n' ls C Ws Wd S hl
theorem qcell_upd {k : Nat} (h0 : 0 ≤ a) : (fun j : Nat => Int32.ofInt (up σ k a b k j)) = upd (fun j : Nat => Int32.ofInt (σ k j)) a.toNat (Int32.ofInt b) := by
  funext j
  rw [up_same]
  unfold upd
  by_cases e : (j : Int) = a
  · rw [if_pos e, if_pos (by omega)]
  · rw [if_neg e, if_neg (by omega)]
theorem q_iast {k n : Nat} {fs : List (Option Nat)} (hd : decode y.2.1 pc = .ok (.iastore, 1)) (hs : qSh k = (1, n, fs)) (h0 : 0 ≤ a ∧ a < n) (kk : qE G y d (pc + 1) L st (up σ k a b) Q) : qE G y d pc L (.inl b :: .inl a :: .inr (.inr k) :: st) σ Q := by
  intro p e R s m args below meth c H locs k' n' ls C Ws Wd S hl
  have hk := qSh_lt hs (by decide)
  have hn := qSh_n hs (by decide)
  have he := qwld_at (cA := G.2.2.1) (ad := G.2.2.2.1) (σ := σ) hk
  rw [qcell_1 hs] at he
  refine va_iast (a := G.2.2.2.1 k) C.1 C.2.1 Wd.2.1 Wd.1 Wd.D S k 0 he rfl (qI_in h0.1 h0.2 (by omega)) hd (fun H1 locs1 hP1 hD1 hS1 => ?_)
  rw [qI_cl h0.1 (by omega), ← qcell_upd h0.1] at hP1
  rw [qwld_set (fun j' h => up_ne h) (qcell_1 hs)] at hP1
  exact kk p e R s m args below meth c H1 locs1 k' n' ls C Ws ⟨hP1, Wd.2.1, Wd.2.2⟩ hS1 hl
theorem q_zast {k n : Nat} {fs : List (Option Nat)} (hd : decode y.2.1 pc = .ok (.bastore, 1)) (hs : qSh k = (2, n, fs)) (h0 : 0 ≤ a ∧ a < n) (hb : b = 0 ∨ b = 1) (kk : qE G y d (pc + 1) L st (up σ k a b) Q) : qE G y d pc L (.inl b :: .inl a :: .inr (.inr k) :: st) σ Q := by
  intro p e R s m args below meth c H locs k' n' ls C Ws Wd S hl
  have hk := qSh_lt hs (by decide)
  have hn := qSh_n hs (by decide)
  have he := qwld_at (cA := G.2.2.1) (ad := G.2.2.2.1) (σ := σ) hk
  rw [qcell_2 hs] at he
  refine va_zast (a := G.2.2.2.1 k) C.1 C.2.1 Wd.2.1 Wd.1 Wd.D S k 1 he rfl (qI_in h0.1 h0.2 (by omega)) hd (fun H1 locs1 hP1 hD1 hS1 => ?_)
  have hnar : vp_nar .boolean (Int32.ofInt b) = Int32.ofInt b := by
    rcases hb with rfl | rfl <;> decide +kernel
  rw [qI_cl h0.1 (by omega), hnar, ← qcell_upd h0.1] at hP1
  rw [qwld_set (fun j' h => up_ne h) (qcell_2 hs)] at hP1
  exact kk p e R s m args below meth c H1 locs1 k' n' ls C Ws ⟨hP1, Wd.2.1, Wd.2.2⟩ hS1 hl
/-- an array of references: t its tag, ref number a of it -/
theorem q_aald {k t n k2 : Nat} {fs : List (Option Nat)} (hd : decode y.2.1 pc = .ok (.aaload, 1)) (hs : qSh k = (t, n, fs)) (ht : t = 3 ∨ t = 4 ∨ t = 5) (h0 : 0 ≤ a ∧ a < n) (hj : fs.getD a.toNat none = some k2) (kk : qE G y d (pc + 1) L (.inr (.inr k2) :: st) σ Q) : qE G y d pc L (.inl a :: .inr (.inr k) :: st) σ Q := by
  intro p e R s m args below meth c H locs k' n' ls C Ws Wd S hl
  have hk := qSh_lt hs (by omega)
  have hn := qSh_n hs (by omega)
  have he := qwld_at (cA := G.2.2.1) (ad := G.2.2.2.1) (σ := σ) hk
  have hce : qcell G.2.2.1 G.2.2.2.1 σ k = .inl (G.2.2.1 t, n, .inr (.inr (.inr (.inr (fun j => (fs.getD j none).map G.2.2.2.1))))) := by
    unfold qcell
    rw [hs]
    rcases ht with rfl | rfl | rfl <;> rfl
  rw [hce] at he
  have hlt : (Int32.ofInt a).toNatClampNeg < n := by rw [qI_cl h0.1 (by omega)]; omega
  have hin := qI_in (n := n) h0.1 h0.2 (by omega)
  obtain ⟨ty, ht0, hrf⟩ : ∃ ty, (qtys G.2.2.1)[t - 1]? = some (G.2.2.1 t, ty) ∧ ty.isReference = true := by
    rcases ht with rfl | rfl | rfl
    · exact ⟨_, rfl, rfl⟩
    · exact ⟨_, rfl, rfl⟩
    · exact ⟨_, rfl, rfl⟩
  refine W.aald (v := va_rf ((fs.getD (Int32.ofInt a).toNatClampNeg none).map G.2.2.2.1)) (ty := ty) C.1 C.2.1 (Wd.1 k _ he) ((Wd.2.1.2 (t - 1) _ ht0).1 n (fun j => va_rf ((fs.getD j none).map G.2.2.2.1))) hrf (fun q => by cases q) (by show ¬ (_ ∨ (arrV _ _ _).slots.size ≤ _); rw [arrV_size]; exact hin) (by show (arrV _ _ _).slots[_]? = _; rw [arrV_read _ _ hlt]) rfl rfl hd ?_
  rw [qI_cl h0.1 (by omega), hj]
  exact kk p e R s m args below meth c H locs k' n' ls C Ws Wd S hl
theorem q_alen {k t n : Nat} {fs : List (Option Nat)} (hd : decode y.2.1 pc = .ok (.arraylength, 1)) (hs : qSh k = (t, n, fs)) (ht : t = 1 ∨ t = 3) (kk : qE G y d (pc + 1) L (.inl n :: st) σ Q) : qE G y d pc L (.inr (.inr k) :: st) σ Q := by
  intro p e R s m args below meth c H locs k' n' ls C Ws Wd S hl
  have hk := qSh_lt hs (by omega)
  have he := qwld_at (cA := G.2.2.1) (ad := G.2.2.2.1) (σ := σ) hk
  rcases ht with rfl | rfl
  · rw [qcell_1 hs] at he
    exact va_alen C.1 C.2.1 Wd.2.1 Wd.1 k 0 he rfl (Int32.ofInt_eq_ofNat).symm hd (kk p e R s m args below meth c H locs k' n' ls C Ws Wd S hl)
  · have hce : qcell G.2.2.1 G.2.2.2.1 σ k = .inl (G.2.2.1 3, n, .inr (.inr (.inr (.inr (fun j => (fs.getD j none).map G.2.2.2.1))))) := by
      unfold qcell
      rw [hs]
      rfl
    rw [hce] at he
    exact va_alen C.1 C.2.1 Wd.2.1 Wd.1 k 2 he rfl (Int32.ofInt_eq_ofNat).symm hd (kk p e R s m args below meth c H locs k' n' ls C Ws Wd S hl)
/-- the script -/
theorem q_slen (hd : decode y.2.1 pc = .ok (.arraylength, 1)) (kk : qE G y d (pc + 1) L (.inl G.2.2.2.2.1 :: st) σ Q) : qE G y d pc L (.inr (.inr 96) :: st) σ Q := by
  intro p e R s m args below meth c H locs k' n' ls C Ws Wd S hl
  have hb : G.2.2.2.1 96 < s.heap.size := by
    obtain ⟨c, q, -⟩ := Ws.1
    exact (Array.getElem?_eq_some_iff.mp q).1
  refine va_slen C.1 C.2.1 Ws.1 hb Ws.2.1 S hd ?_
  rw [← Int32.ofInt_eq_ofNat]
  exact kk p e R s m args below meth c H locs k' n' ls C Ws Wd S hl
theorem q_sald (hd : decode y.2.1 pc = .ok (.iaload, 1)) (h0 : 0 ≤ a ∧ a < G.2.2.2.2.1) (hL : G.2.2.2.2.1 ≤ 2147483647) (kk : qE G y d (pc + 1) L (.inl (G.2.2.2.2.2 a.toNat).toInt :: st) σ Q) : qE G y d pc L (.inl a :: .inr (.inr 96) :: st) σ Q := by
  intro p e R s m args below meth c H locs k' n' ls C Ws Wd S hl
  have hb : G.2.2.2.1 96 < s.heap.size := by
    obtain ⟨c, q, -⟩ := Ws.1
    exact (Array.getElem?_eq_some_iff.mp q).1
  refine va_sld C.1 C.2.1 Ws.1 hb Ws.2.1 S (qI_in h0.1 h0.2 hL) hd ?_
  rw [qI_cl h0.1 (by omega), ← Int32.ofInt_toInt (G.2.2.2.2.2 a.toNat)]
  exact kk p e R s m args below meth c H locs k' n' ls C Ws Wd S hl
/-- the tables -/
theorem q_gets {i idx : Nat} (hd : decode y.2.1 pc = .ok (.getstatic idx, 3)) (hi : i < 3) (hw : Cond.fieldLink y.1.cls idx RX1 (qtn i) "[I" ∈ TB) (kk : qE G y d (pc + 3) L (.inr (.inr (97 + i)) :: st) σ Q) : qE G y d pc L st σ Q :=
  fun p e R s m args below meth c H locs k' n' ls C Ws Wd S hl => va_gets C.1 C.2.1 (Ws.2.2 i hi).1 S C.2.2.2.2.2.1 (C.2.2.2.2.2.2.1 _ hw) (fun x h => h) hd (kk p e R s m args below meth c H locs k' n' ls C Ws Wd S hl)
theorem q_tald {i : Nat} (hd : decode y.2.1 pc = .ok (.iaload, 1)) (hi : i < 3) (h0 : 0 ≤ a ∧ a < 6) (kk : qE G y d (pc + 1) L (.inl (qtb i a) :: st) σ Q) : qE G y d pc L (.inl a :: .inr (.inr (97 + i)) :: st) σ Q := by
  intro p e R s m args below meth c H locs k' n' ls C Ws Wd S hl
  obtain ⟨cell, h1, h2, h3, h4, h5, h6, h7⟩ := (Ws.2.2 i hi).2
  have hin : vp_in (Int32.ofInt a) 6 := qI_in h0.1 h0.2 (by omega)
  have hlt : (Int32.ofInt a).toNatClampNeg < 6 := by rw [qI_cl h0.1 (by omega)]; omega
  refine W.iald (v := .int (Int32.ofInt (qtb i a))) C.1 C.2.1 (by rw [S.2.1 _ (Array.getElem?_eq_some_iff.mp h1).1 h7]; exact h1) h2 h3 (fun q => hin (q.imp id (fun z => by omega))) ?_ rfl rfl hd (kk p e R s m args below meth c H locs k' n' ls C Ws Wd S hl)
  rw [h6 _ hlt, qI_cl h0.1 (by omega)]
  show some (Value.int (Int32.ofInt (qtb i (a.toNat : Int)))) = _
  rw [Int.toNat_of_nonneg h0.1]
/-- what System.arraycopy leaves: n ints of f from sp on come to g from dp on -/
def qcpy (f g : Int → Int) (sp dp n : Int) : Int → Int := fun j => if dp ≤ j ∧ j < dp + n then f (sp + (j - dp)) else g j
theorem q_copy {idx k1 k2 n1 n2 : Nat} {f1 f2 : List (Option Nat)} {sp dp n : Int} (hd : decode y.2.1 pc = .ok (.invokestatic idx, 3)) (hw : Cond.methodLink y.1.cls idx arraycopyName ∈ TB) (hw2 : Cond.native arraycopyName ∈ TB) (hw3 : Cond.static arraycopyName ∈ TB) (hw4 : Cond.initialized "java/lang/System" ∈ TB)
    (h1 : qSh k1 = (1, n1, f1)) (h2 : qSh k2 = (1, n2, f2)) (hsp : 0 ≤ sp) (hdp : 0 ≤ dp) (hn : 0 ≤ n) (hs : sp + n ≤ n1) (ht : dp + n ≤ n2) (hst : (st.map qcat).sum ≤ 8) (hd1 : 1 ≤ d)
    (kk : qE G y d (pc + 3) L st (put σ k2 (qcpy (σ k1) (σ k2) sp dp n)) Q) : qE G y d pc L (.inl n :: .inl dp :: .inr (.inr k2) :: .inl sp :: .inr (.inr k1) :: st) σ Q := by
  intro p e R s m args below meth c H locs k' n' ls C Ws Wd S hl
  have hk1 := qSh_lt h1 (by decide)
  have hk2 := qSh_lt h2 (by decide)
  have hn1 := qSh_n h1 (by decide)
  have hn2 := qSh_n h2 (by decide)
  have he1 := qwld_at (cA := G.2.2.1) (ad := G.2.2.2.1) (σ := σ) hk1
  have he2 := qwld_at (cA := G.2.2.1) (ad := G.2.2.2.1) (σ := σ) hk2
  rw [qcell_1 h1] at he1
  rw [qcell_1 h2] at he2
  have c1 := qI_cl hsp (by omega)
  have c2 := qI_cl hdp (by omega)
  have c3 := qI_cl hn (by omega)
  have nn : ∀ z : Int, 0 ≤ z → z ≤ 2147483647 → ¬ Int32.ofInt z < 0 := fun z h h' => by
    rw [qI_0, qI_lt ⟨by omega, h'⟩ ⟨by omega, by omega⟩]; omega
  have hcat : ((st.map (qr G.2.2.2.1)).map fun v => v.category).sum = (st.map qcat).sum := by
    rw [List.map_map]
    congr 1
    apply List.map_congr_left
    intro v _
    exact qcat_ok _ v
  refine va_copyi (a := G.2.2.2.1 k2) (a0 := G.2.2.2.1 k1) (ty := .int) C.1 C.2.1 (C.2.2.1.trans hl.1.symm) C.2.2.2.2.2.1 (C.2.2.2.2.2.2.1 _ hw) (C.2.2.2.2.2.2.1 _ hw2) (C.2.2.2.2.2.2.1 _ hw3) (C.2.2.2.2.2.2.1 _ hw4) Wd.2.1 Wd.1 Wd.D S k1 k2 0 0 he1 he2 rfl rfl rfl (nn sp hsp (by omega)) (nn dp hdp (by omega)) (nn n hn (by omega)) (by rw [c1, c3]; omega) (by rw [c2, c3]; omega) (fun i _ => rfl) (Nat.le_trans hd1 C.2.2.2.2.2.2.2.1) ?_ hd (fun H1 locs1 hP1 hD1 hS1 => ?_)
  · have h64 := C.2.2.2.2.2.2.2.2.1
    have hnw : nativeFrameWords "java/lang/System" "arraycopy" 5 ≤ 40 := by decide +kernel
    rw [hcat]
    omega
  · have hcell : qcell G.2.2.1 G.2.2.2.1 (put σ k2 (qcpy (σ k1) (σ k2) sp dp n)) k2 = .inl (G.2.2.1 1, n2, .inl (va_cpy (fun j => Int32.ofInt (σ k1 j)) (fun j => Int32.ofInt (σ k2 j)) (Int32.ofInt sp).toNatClampNeg (Int32.ofInt dp).toNatClampNeg (Int32.ofInt n).toNatClampNeg)) := by
      rw [qcell_1 h2, put_same, c1, c2, c3]
      congr 3
      congr 1
      funext j
      unfold va_cpy qcpy
      by_cases hj : dp ≤ (j : Int) ∧ (j : Int) < dp + n
      · rw [if_pos hj, if_pos (by omega)]
        congr 2
        omega
      · rw [if_neg hj, if_neg (by omega)]
    rw [qwld_set (σ' := put σ k2 (qcpy (σ k1) (σ k2) sp dp n)) (fun j' h => put_ne h) hcell] at hP1
    exact kk p e R s m args below meth c H1 locs1 k' n' ls C Ws ⟨hP1, Wd.2.1, Wd.2.2⟩ hS1 hl
end QAR
