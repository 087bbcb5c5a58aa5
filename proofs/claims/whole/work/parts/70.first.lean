/-! ===== the first state ===== -/
def rn1 : Int → Int := fun j => if j = 3 then 1 else 0
def σ0 : qM := fun k => match k with
  | 3 => lnF
  | 83 => lnF
  | 15 => rn1
  | 22 => rn1
  | 30 => rn1
  | 37 => rn1
  | _ => z0
def A0 : qA := (z0, [], 0, 0, (lnF, z0, fun _ _ => 0), (z0, 0), (z0, fun _ _ => 0), (z0, 0))
theorem lnF_at {r : Int} (h0 : 0 ≤ r) (h7 : r ≤ 7) : lnF r = -1 := by
  rcases (show r = 0 ∨ r = 1 ∨ r = 2 ∨ r = 3 ∨ r = 4 ∨ r = 5 ∨ r = 6 ∨ r = 7 by omega) with rfl | rfl | rfl | rfl | rfl | rfl | rfl | rfl <;> rfl
theorem si0 {b : Nat} (hb : b = 15 ∨ b = 30 ∨ b = 37) : SiR σ0 b z0 := by
  rcases hb with rfl | rfl | rfl <;> exact ⟨⟨rfl, rfl, rfl, rfl⟩, fun h => absurd h (by decide), ⟨rfl, rfl, rfl, rfl, rfl, rfl⟩, fun i h1 h2 => absurd h2 (by show ¬ i < 0; omega)⟩
theorem CR0 : CR σ0 A0 := by
  refine ⟨si0 (Or.inl rfl), ⟨⟨Int.le_refl 0, by show (0 : Int) ≤ 23; omega⟩, rfl, Nat.zero_le _, fun i f h => absurd h (by simp [A0])⟩, rfl, rfl, fun r h1 h2 => ⟨rfl, rfl, fun i a b => absurd b (by show ¬ i < 0; omega)⟩, ⟨rfl, fun j a b => absurd b (by show ¬ j < 0; omega)⟩, ⟨⟨rfl, fun h => absurd h (by decide)⟩, rfl, fun h => absurd h (by decide)⟩, rfl, fun j a b => absurd b (by show ¬ j < 0; omega)⟩
theorem MR0 : MR σ0 A0 := by
  refine ⟨fun j _ _ => rfl, ⟨rfl, fun i f h => absurd h (by simp [A0])⟩, rfl, rfl, fun r h1 h2 => ⟨rfl, rfl, fun i a b => absurd b (by show ¬ i < 0; omega)⟩, ⟨rfl, fun j a b => absurd b (by show ¬ j < 0; omega)⟩, fun k hk => ⟨rfl, fun h => absurd h (by show ¬ (0 : Int) = 1; omega)⟩, rfl, fun j a b => absurd b (by show ¬ j < 0; omega)⟩
theorem AV0 : AV A0 := by
  have hz : ∀ i : Int, z0 i = 0 := fun _ => rfl
  refine ⟨?_, ⟨Nat.zero_le _, fun g hg => absurd hg (by simp [A0]), fun _ => rfl⟩, ⟨Int.le_refl 0, by show (0 : Int) ≤ 5; omega⟩, ⟨Int.le_refl 0, by show (0 : Int) ≤ 3; omega⟩, fun r h1 h2 => ?_, ⟨⟨Int.le_refl 0, by show (0 : Int) ≤ 120; omega⟩, fun j a b => absurd b (by show ¬ j < 0; omega)⟩, fun k hk => ⟨Or.inl rfl, fun h => absurd h (by show ¬ (0 : Int) = 1; omega)⟩, ⟨⟨Int.le_refl 0, by show (0 : Int) ≤ 16; omega⟩, fun j a b => absurd b (by show ¬ j < 0; omega)⟩⟩
  · show Row z0
    refine ⟨?_, ⟨Int.le_refl 0, by show (0 : Int) ≤ 999; omega⟩, ⟨Int.le_refl 0, by show (0 : Int) ≤ 7; omega⟩, ⟨Int.le_refl 0, by show (0 : Int) < 2 ^ ((0 : Int).toNat); decide⟩, Or.inl rfl, fun _ => rfl, fun h => absurd h (by show ¬ (0 : Int) = 1; omega), fun i a b => absurd b (by show ¬ i < 0; omega)⟩
    unfold mOk
    simp only [hz]
    omega
  · show (-1 ≤ lnF r ∧ lnF r ≤ 2) ∧ (0 ≤ (0 : Int) ∧ (0 : Int) ≤ 40) ∧ _
    rw [lnF_at h1 h2]
    exact ⟨by omega, by omega, fun i a b => absurd b (by show ¬ i < 0; omega)⟩
/-! ===== the first world ===== -/
def adF (h7 h8 b : Nat) (q7 q8 tb : Nat → Nat) : Nat → Nat := fun k => if k = 0 then h7 else if k ≤ 81 then q7 (k - 1) else if k = 82 then h8 else if k ≤ 95 then q8 (k - 83) else if k = 96 then b else tb (k - 97)
def cAF (cI cz c3 c4 c5 : ClassId) : Nat → ClassId := fun t => match t with
  | 1 => cI
  | 2 => cz
  | 3 => c3
  | 4 => c4
  | _ => c5
/-- where cell k comes in the order of making -/
def plF (k : Nat) : Nat := if k = 3 then 11 else if k = 4 then 12 else if 5 ≤ k ∧ k ≤ 12 then k - 2 else k
theorem plF_inj {i j : Nat} (h : plF i = plF j) : i = j := by
  unfold plF at h
  split at h <;> split at h <;> (try split at h) <;> (try split at h) <;> (try split at h) <;> (try split at h) <;> omega
theorem rf_8 {ad : Nat → Nat} {a b c d e f g h : Nat} : (fun j => [ad a, ad b, ad c, ad d, ad e, ad f, ad g, ad h][j]?) = fun j => (([some a, some b, some c, some d, some e, some f, some g, some h] : List (Option Nat)).getD j none).map ad := by
  funext j
  match j with
  | 0 => rfl
  | 1 => rfl
  | 2 => rfl
  | 3 => rfl
  | 4 => rfl
  | 5 => rfl
  | 6 => rfl
  | 7 => rfl
  | n + 8 => rfl
theorem rf_2 {ad : Nat → Nat} {a b : Nat} : (fun j => [ad a, ad b][j]?) = fun j => (([some a, some b] : List (Option Nat)).getD j none).map ad := by
  funext j
  match j with
  | 0 => rfl
  | 1 => rfl
  | n + 2 => rfl
