/-! ===== the class: site ===== -/
section T7
variable {G : qGl} {d : Nat} {σ : qM} {A : qA} {tp : Int → Int} {tl : Int} {s : Int × Int} {g : Int → Int}
/-- the row before the deeds -/
def rw0 (tp : Int → Int) (tl : Int) : Int → Int := ftR tp tl 2 (ftS tp tl (ftS tp tl (laS tp tl))) (ftR tp tl 1 (ftS tp tl (laS tp tl)) (ftR tp tl 0 (laS tp tl) (laR tp tl g00)))
theorem paS_eq : paS tp tl = dsL tp tl 9 (ftS tp tl (ftS tp tl (ftS tp tl (laS tp tl))), rw0 tp tl) := rfl
theorem rw0_o {j : Int} (h : j < 1 ∨ (3 < j ∧ j < 7) ∨ 12 < j) : rw0 tp tl j = g00 j := by
  unfold rw0 ftR laR
  rw [u1_ne (by omega), u1_ne (by omega), u1_ne (by omega), u1_ne (by omega), u1_ne (by omega), u1_ne (by omega), u1_ne (by omega), u1_ne (by omega), u1_ne (by omega)]
theorem rw0_l {j : Int} (h : 1 ≤ j ∧ j ≤ 3) : rw0 tp tl j = laR tp tl g00 j := by
  unfold rw0 ftR
  rw [u1_ne (by omega), u1_ne (by omega), u1_ne (by omega), u1_ne (by omega), u1_ne (by omega), u1_ne (by omega)]
theorem rw0_h : (rw0 tp tl 7 = fh tp tl (laS tp tl) ∧ rw0 tp tl 8 = fh tp tl (ftS tp tl (laS tp tl)) ∧ rw0 tp tl 9 = fh tp tl (ftS tp tl (ftS tp tl (laS tp tl)))) ∧ (rw0 tp tl 10 = fs tp tl (laS tp tl) ∧ rw0 tp tl 11 = fs tp tl (ftS tp tl (laS tp tl)) ∧ rw0 tp tl 12 = fs tp tl (ftS tp tl (ftS tp tl (laS tp tl)))) := by
  unfold rw0 ftR fh fs
  refine ⟨⟨?_, ?_, ?_⟩, ?_, ?_, ?_⟩ <;> simp [u1]
/-- deeds change nothing but deeds and their number -/
theorem dsL_o : ∀ (m : Nat) (z : (Int × Int) × (Int → Int)) (j : Int), 0 ≤ z.2 5 → j ≠ 5 → j < 13 → (dsL tp tl m z).2 j = z.2 j
  | 0, _, _, _, _, _ => rfl
  | m + 1, z, j, h5, h1, h2 => by
    unfold dsL
    split
    · split
      · split
        · rfl
        · rw [dsL_o m _ j (by show 0 ≤ deR tp tl z.1 z.2 5; rw [deR_5]; omega) h1 h2]
          show deR tp tl z.1 z.2 j = z.2 j
          unfold deR
          rw [u1_ne h1, u1_ne (by omega), u1_ne (by omega), u1_ne (by omega)]
      · split
        · rfl
        · rfl
    · rfl
theorem paS_in (hK : TK tp tl) : ∀ (m : Nat) (z : (Int × Int) × (Int → Int)), sIn tl z.1 → sIn tl (dsL tp tl m z).1
  | 0, _, h => h
  | m + 1, z, h => by
    have h1 := h.1
    have h2 := h.2
    unfold dsL
    split
    · split
      · rename_i c
        split
        · exact ⟨by show (0 : Int) ≤ 3 ∧ (3 : Int) ≤ 3; omega, h2⟩
        · exact paS_in hK m _ (ntS_in (ntS_in ⟨by show (0 : Int) ≤ 0 ∧ (0 : Int) ≤ 3; omega, by show 0 ≤ z.1.2 + 1 ∧ z.1.2 + 1 ≤ tl; have := c.1; omega⟩))
      · split
        · exact h
        · refine ⟨?_, h2⟩
          show 0 ≤ (if _ then (3 : Int) else 1) ∧ (if _ then (3 : Int) else 1) ≤ 3
          split <;> omega
    · exact h
