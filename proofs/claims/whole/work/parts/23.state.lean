/-! ===== the state that both keep: the site's row, the rows that can be undone, status, latest fault, shelf, tape, images, trace ===== -/
abbrev qA : Type := (Int → Int) × List (Int → Int) × Int × Int × ((Int → Int) × (Int → Int) × (Int → Int → Int)) × ((Int → Int) × Int) × ((Int → Int) × (Int → Int → Int)) × ((Int → Int) × Int)
def AcM (σ : qM) (as : List (Int → Int)) : Prop := σ 82 9 = as.length ∧ ∀ (i : Nat) (f : Int → Int), as[i]? = some f → ∀ j, 0 ≤ j → j < 34 → σ 89 (34 * (as.length - 1 - i) + j) = f j
def CR (σ : qM) (A : qA) : Prop :=
  SiR σ 15 A.1 ∧ AcC σ A.2.1 ∧ σ 0 9 = A.2.2.1 ∧ σ 0 8 = A.2.2.2.1 ∧ ShC σ A.2.2.2.2.1.1 A.2.2.2.2.1.2.1 A.2.2.2.2.1.2.2 ∧
  (σ 13 1 = A.2.2.2.2.2.1.2 ∧ ∀ j, 0 ≤ j → j < A.2.2.2.2.2.1.2 → σ 14 j = A.2.2.2.2.2.1.1 j) ∧
  ((σ 30 0 = A.2.2.2.2.2.2.1.1 0 ∧ (A.2.2.2.2.2.2.1.1 0 = 1 → SiR σ 30 (A.2.2.2.2.2.2.1.2 0))) ∧ (σ 37 0 = A.2.2.2.2.2.2.1.1 1 ∧ (A.2.2.2.2.2.2.1.1 1 = 1 → SiR σ 37 (A.2.2.2.2.2.2.1.2 1)))) ∧
  (σ 80 1 = A.2.2.2.2.2.2.2.2 ∧ ∀ j, 0 ≤ j → j < A.2.2.2.2.2.2.2.2 → σ 81 j = A.2.2.2.2.2.2.2.1 j)
def MR (σ : qM) (A : qA) : Prop :=
  RwR σ 86 A.1 ∧ AcM σ A.2.1 ∧ σ 82 1 = A.2.2.1 ∧ σ 82 18 = A.2.2.2.1 ∧ ShM σ A.2.2.2.2.1.1 A.2.2.2.2.1.2.1 A.2.2.2.2.1.2.2 ∧
  (σ 82 11 = A.2.2.2.2.2.1.2 ∧ ∀ j, 0 ≤ j → j < A.2.2.2.2.2.1.2 → σ 90 j = A.2.2.2.2.2.1.1 j) ∧
  (∀ k, k = 0 ∨ k = 1 → σ 93 k = A.2.2.2.2.2.2.1.1 k ∧ (A.2.2.2.2.2.2.1.1 k = 1 → ∀ j, 0 ≤ j → j < 34 → σ 94 (34 * k + j) = A.2.2.2.2.2.2.1.2 k j)) ∧
  (σ 82 24 = A.2.2.2.2.2.2.2.2 ∧ ∀ j, 0 ≤ j → j < A.2.2.2.2.2.2.2.2 → σ 95 j = A.2.2.2.2.2.2.2.1 j)
def AV (A : qA) : Prop :=
  Row A.1 ∧ (A.2.1.length ≤ 24 ∧ (∀ g ∈ A.2.1, Row g ∧ Same A.1 g) ∧ (A.1 0 = 0 → A.2.1 = [])) ∧ (0 ≤ A.2.2.1 ∧ A.2.2.1 ≤ 5) ∧ (0 ≤ A.2.2.2.1 ∧ A.2.2.2.1 ≤ 3) ∧ ShV A.2.2.2.2.1.1 A.2.2.2.2.1.2.1 A.2.2.2.2.1.2.2 ∧
  ((0 ≤ A.2.2.2.2.2.1.2 ∧ A.2.2.2.2.2.1.2 ≤ 120) ∧ ∀ j, 0 ≤ j → j < A.2.2.2.2.2.1.2 → 0 ≤ A.2.2.2.2.2.1.1 j ∧ A.2.2.2.2.2.1.1 j ≤ 255) ∧
  (∀ k, k = 0 ∨ k = 1 → (A.2.2.2.2.2.2.1.1 k = 0 ∨ A.2.2.2.2.2.2.1.1 k = 1) ∧ (A.2.2.2.2.2.2.1.1 k = 1 → Row (A.2.2.2.2.2.2.1.2 k) ∧ A.2.2.2.2.2.2.1.2 k 0 = 1)) ∧
  ((0 ≤ A.2.2.2.2.2.2.2.2 ∧ A.2.2.2.2.2.2.2.2 ≤ 16) ∧ ∀ j, 0 ≤ j → j < A.2.2.2.2.2.2.2.2 → 0 ≤ A.2.2.2.2.2.2.2.1 j ∧ A.2.2.2.2.2.2.2.1 j ≤ 100)
/-- cells of the class that tell nothing of the state -/
def scrC (S : List Nat) : Prop := ∀ j ∈ S, (22 ≤ j ∧ j ≤ 28) ∨ (46 ≤ j ∧ j ≤ 79)
def scrM (S : List Nat) : Prop := ∀ j ∈ S, j = 87 ∨ j = 88 ∨ j = 91 ∨ j = 92
theorem scr_in {S : List Nat} (h : S.all (fun j => decide ((22 ≤ j ∧ j ≤ 28) ∨ (46 ≤ j ∧ j ≤ 79))) = true) : scrC S := fun j hj => by simpa using List.all_eq_true.mp h j hj
theorem scr_im {S : List Nat} (h : S.all (fun j => decide (j = 87 ∨ j = 88 ∨ j = 91 ∨ j = 92)) = true) : scrM S := fun j hj => by simpa using List.all_eq_true.mp h j hj
theorem CR.fr {σ σ' : qM} {A : qA} {S : List Nat} (h : CR σ A) (hF : Fr σ σ' S) (hS : scrC S) : CR σ' A := by
  have n : ∀ j : Nat, ¬ ((22 ≤ j ∧ j ≤ 28) ∨ (46 ≤ j ∧ j ≤ 79)) → j ∉ S := fun j h1 h2 => h1 (hS j h2)
  obtain ⟨h1, h2, h3, h4, h5, h6, h7, h8⟩ := h
  have e : ∀ j : Nat, ¬ ((22 ≤ j ∧ j ≤ 28) ∨ (46 ≤ j ∧ j ≤ 79)) → σ' j = σ j := fun j hj => hF j (n j hj)
  refine ⟨h1.fr hF (fun j a b => n j (by omega)), ?_, ?_, ?_, h5.fr hF (fun j a b => n j (by omega)), ?_, ⟨⟨?_, fun q => (h7.1.2 q).fr hF (fun j a b => n j (by omega))⟩, ?_, fun q => (h7.2.2 q).fr hF (fun j a b => n j (by omega))⟩, ?_⟩
  · unfold AcC PkR
    rw [e 44 (by omega), e 45 (by omega)]
    exact h2
  · rw [e 0 (by omega)]; exact h3
  · rw [e 0 (by omega)]; exact h4
  · rw [e 13 (by omega), e 14 (by omega)]; exact h6
  · rw [e 30 (by omega)]; exact h7.1.1
  · rw [e 37 (by omega)]; exact h7.2.1
  · rw [e 80 (by omega), e 81 (by omega)]; exact h8
theorem CR.out {σ σ' : qM} {A : qA} (h : CR σ A) (hF : ∀ j, j < 82 → σ' j = σ j) : CR σ' A := by
  obtain ⟨h1, h2, h3, h4, h5, h6, h7, h8⟩ := h
  have si : ∀ b f, b ≤ 60 → SiR σ b f → SiR σ' b f := by
    intro b f hb hs
    obtain ⟨s1, s2, s3, s4⟩ := hs
    refine ⟨?_, ?_, ?_, ?_⟩
    · rw [hF b (by omega)]; exact s1
    · rw [hF b (by omega)]; exact s2
    · unfold StR
      rw [hF (b + 4 + 1) (by omega), hF (b + 4 + 2) (by omega)]
      exact s3
    · unfold DeR
      rw [hF (b + 1) (by omega), hF (b + 2) (by omega), hF (b + 3) (by omega)]
      exact s4
  refine ⟨si 15 _ (by omega) h1, ?_, ?_, ?_, ?_, ?_, ⟨⟨?_, fun q => si 30 _ (by omega) (h7.1.2 q)⟩, ?_, fun q => si 37 _ (by omega) (h7.2.2 q)⟩, ?_⟩
  · unfold AcC PkR
    rw [hF 44 (by omega), hF 45 (by omega)]
    exact h2
  · rw [hF 0 (by omega)]; exact h3
  · rw [hF 0 (by omega)]; exact h4
  · intro r a b
    rw [hF 3 (by omega), hF 4 (by omega), hF (5 + r.toNat) (by omega)]
    exact h5 r a b
  · rw [hF 13 (by omega), hF 14 (by omega)]; exact h6
  · rw [hF 30 (by omega)]; exact h7.1.1
  · rw [hF 37 (by omega)]; exact h7.2.1
  · rw [hF 80 (by omega), hF 81 (by omega)]; exact h8
theorem MR.out {σ σ' : qM} {A : qA} (h : MR σ A) (hF : ∀ j, 82 ≤ j → σ' j = σ j) : MR σ' A := by
  obtain ⟨h1, h2, h3, h4, h5, h6, h7, h8⟩ := h
  unfold MR RwR AcM ShM
  rw [hF 82 (by omega), hF 83 (by omega), hF 84 (by omega), hF 85 (by omega), hF 86 (by omega), hF 89 (by omega), hF 90 (by omega), hF 93 (by omega), hF 94 (by omega), hF 95 (by omega)]
  exact ⟨h1, h2, h3, h4, h5, h6, h7, h8⟩
theorem MR.fr {σ σ' : qM} {A : qA} {S : List Nat} (h : MR σ A) (hF : Fr σ σ' S) (hS : scrM S) : MR σ' A := by
  have e : ∀ j : Nat, ¬ (j = 87 ∨ j = 88 ∨ j = 91 ∨ j = 92) → σ' j = σ j := fun j hj => hF j (fun h2 => hj (hS j h2))
  obtain ⟨h1, h2, h3, h4, h5, h6, h7, h8⟩ := h
  unfold MR RwR AcM ShM
  rw [e 82 (by omega), e 83 (by omega), e 84 (by omega), e 85 (by omega), e 86 (by omega), e 89 (by omega), e 90 (by omega), e 93 (by omega), e 94 (by omega), e 95 (by omega)]
  exact ⟨h1, h2, h3, h4, h5, h6, h7, h8⟩
/-- scratch fields of the reference -/
theorem MR.fld {σ : qM} {A : qA} {i v : Int} (h : MR σ A) (hi : i ≠ 1 ∧ i ≠ 9 ∧ i ≠ 11 ∧ i ≠ 18 ∧ i ≠ 24) : MR (up σ 82 i v) A := by
  obtain ⟨h1, h2, h3, h4, h5, h6, h7, h8⟩ := h
  unfold MR RwR AcM ShM
  have e : ∀ j : Nat, j ≠ 82 → up σ 82 i v j = σ j := fun j hj => up_ne hj
  rw [e 83 (by omega), e 84 (by omega), e 85 (by omega), e 86 (by omega), e 89 (by omega), e 90 (by omega), e 93 (by omega), e 94 (by omega), e 95 (by omega)]
  simp only [up_same, show ¬ (1 : Int) = i by omega, show ¬ (9 : Int) = i by omega, show ¬ (11 : Int) = i by omega, show ¬ (18 : Int) = i by omega, show ¬ (24 : Int) = i by omega, if_false]
  exact ⟨h1, h2, h3, h4, h5, h6, h7, h8⟩
/-- what a call of the class, of the reference, leaves -/
def pC (σ : qM) (s : Int × qA) : Int → qM → Prop := fun r σ1 => ∃ A', s = (r, A') ∧ (∀ j, 82 ≤ j → σ1 j = σ j) ∧ CR σ1 A'
def pM (σ : qM) (s : Int × qA) : Int → qM → Prop := fun r σ1 => ∃ A', s = (r, A') ∧ (∀ j, j < 82 → σ1 j = σ j) ∧ MR σ1 A'
theorem Fr.c {σ σ' : qM} {S : List Nat} (h : Fr σ σ' S) (hS : S.all (fun j => decide (j < 82)) = true) : ∀ j, 82 ≤ j → σ' j = σ j := fun j hj => h j (fun q => by have := List.all_eq_true.mp hS j q; simp at this; omega)
theorem Fr.m {σ σ' : qM} {S : List Nat} (h : Fr σ σ' S) (hS : S.all (fun j => decide (82 ≤ j)) = true) : ∀ j, j < 82 → σ' j = σ j := fun j hj => h j (fun q => by have := List.all_eq_true.mp hS j q; simp at this; omega)
/-- an answer without a change -/
theorem pC.same {σ σ1 : qM} {A : qA} {r : Int} {S : List Nat} (h : CR σ A) (hF : Fr σ σ1 S) (hS : scrC S) : pC σ (r, A) r σ1 :=
  ⟨A, rfl, fun j hj => hF j (fun q => by have := hS j q; omega), h.fr hF hS⟩
theorem pC.id {σ : qM} {A : qA} {r : Int} (h : CR σ A) : pC σ (r, A) r σ := ⟨A, rfl, fun _ _ => rfl, h⟩
