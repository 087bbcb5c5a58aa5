/-! ===== the reference: the end of a text ===== -/
section T8
variable {G : qGl} {d : Nat} {σ : qM} {tp : Int → Int} {tl : Int} {s : Int × Int} {g : Int → Int}
theorem tok_end {p : Int} (h : tok σ tp tl p) : (σ 82 14 = 1 ↔ tl ≤ p) := by
  obtain ⟨t0, t1, t2, t3, t4, t5, t6⟩ := h
  by_cases c1 : p < tl
  · have : σ 82 14 ≠ 1 := by
      by_cases c2 : 97 ≤ tp p ∧ tp p ≤ 122
      · have := t2 c1 c2; omega
      · by_cases c3 : 48 ≤ tp p ∧ tp p ≤ 57
        · have q := t3 c1 c3
          have : σ 82 14 = 3 ∨ σ 82 14 = 0 := by rw [q.1]; split <;> omega
          omega
        · by_cases c4 : tp p = 44 ∨ tp p = 59
          · have := t4 c1 c4; omega
          · have := t5 c1 c2 c3 c4; omega
    exact ⟨fun z => absurd z this, fun z => by omega⟩
  · exact ⟨fun _ => by omega, fun _ => (t1 (by omega)).1⟩
def enS (tl : Int) (s : Int × Int) : Int × Int := if s.1 = 0 ∧ s.2 < tl then (1, s.2) else s
/-- after failed: the fault, where, the latest fault -/
def FE (σ σ1 : qM) (s : Int × Int) : Prop := Fr σ σ1 [82] ∧ σ1 82 11 = 0 ∧ σ1 82 18 = (if s.1 = 0 then σ 82 18 else s.1) ∧ (s.1 ≠ 0 → σ1 82 17 = s.2) ∧ ∀ i, i < 11 ∨ 18 < i → σ1 82 i = σ 82 i
theorem m_failed (hS : MS σ tp tl s) (hI : sIn tl s) : qE G mX8_failed (d + 1) 0 [(0, vr 82)] [] σ (ri fun r σ1 => bi ((enS tl s).1 ≠ 0) = r ∧ FE σ σ1 (enS tl s)) := by
  have tail : ∀ (τ : qM) (s' : Int × Int), MS τ tp tl s' → sIn tl s' → F6 σ τ → qE G mX8_failed (d + 1) 20 [(0, vr 82)] [] τ (ri fun r σ1 => bi (s'.1 ≠ 0) = r ∧ FE σ σ1 s') := by
    intro τ s' hS' hI' hF
    have e16 := hS'.2.1
    have e17 := hS'.2.2.1
    have hi := hI'.1
    by_cases z : s'.1 = 0
    · skip
      refine q_aload_n (pc := 20) dX8_failed_20 rfl ?_
      refine q_iconst (pc := 21) dX8_failed_21 ?_
      refine q_pI (pc := 22) 11 dX8_failed_22 wX8_77 rfl rfl rfl ?_
      have u16 : up τ 82 11 0 82 16 = s'.1 := by rw [up_same, if_neg (by omega)]; exact e16
      refine q_aload_n (pc := 25) dX8_failed_25 rfl ?_
      refine q_aload_n (pc := 26) dX8_failed_26 rfl ?_
      refine q_gI (pc := 27) 16 dX8_failed_27 fX8_81 rfl rfl rfl ?_
      refine q_ifle (pc := 30) (tgt := 40) dX8_failed_30 (by decide) (by omega) (fun h30 => ?_) (fun h => absurd h (by omega))
      refine q_aload_n (pc := 40) dX8_failed_40 rfl ?_
      refine q_gI (pc := 41) 18 dX8_failed_41 fX8_119 rfl rfl rfl ?_
      refine q_pI (pc := 44) 18 dX8_failed_44 wX8_119 rfl rfl rfl ?_
      refine q_aload_n (pc := 47) dX8_failed_47 rfl ?_
      refine q_gI (pc := 48) 16 dX8_failed_48 fX8_81 rfl rfl rfl ?_
      have w16 : ∀ v, up (up τ 82 11 0) 82 18 v 82 16 = s'.1 := fun v => by rw [up_same, if_neg (by omega)]; exact u16
      rw [w16]
      refine q_ifle (pc := 51) (tgt := 58) dX8_failed_51 (by decide) (by omega) (fun h51 => ?_) (fun h => absurd h (by omega))
      refine q_iconst (pc := 58) dX8_failed_58 ?_
      refine q_rz (pc := 59) dX8_failed_59 rfl (by first | exact bi_01 _ | omega) ?_
      first
      | (have z : s'.1 ≠ 0 := by omega
         refine ⟨bi_t z, (hF.1.tt (Fr.up (by simp))).tt (Fr.up (by simp)), by rw [up_same, if_neg (by omega), up_same, if_pos rfl], by rw [up_same, if_pos rfl, if_neg z]; exact u16, fun q => by rw [up_same, if_neg (by omega), up_same, if_neg (by omega)]; exact e17 q, fun i hi => by rw [up_same, if_neg (by omega), up_same, if_neg (by omega)]; exact hF.2 i (by omega)⟩)
      | (have z : s'.1 = 0 := by omega
         refine ⟨bi_f (fun q => q z), (hF.1.tt (Fr.up (by simp))).tt (Fr.up (by simp)), by rw [up_same, if_neg (by omega), up_same, if_pos rfl], by rw [up_same, if_pos rfl, if_pos z, up_same, if_neg (by omega)]; exact hF.2 18 (by omega), fun q => absurd z q, fun i hi => by rw [up_same, if_neg (by omega), up_same, if_neg (by omega)]; exact hF.2 i (by omega)⟩)
    · skip
      refine q_aload_n (pc := 20) dX8_failed_20 rfl ?_
      refine q_iconst (pc := 21) dX8_failed_21 ?_
      refine q_pI (pc := 22) 11 dX8_failed_22 wX8_77 rfl rfl rfl ?_
      have u16 : up τ 82 11 0 82 16 = s'.1 := by rw [up_same, if_neg (by omega)]; exact e16
      refine q_aload_n (pc := 25) dX8_failed_25 rfl ?_
      refine q_aload_n (pc := 26) dX8_failed_26 rfl ?_
      refine q_gI (pc := 27) 16 dX8_failed_27 fX8_81 rfl rfl rfl ?_
      refine q_ifle (pc := 30) (tgt := 40) dX8_failed_30 (by decide) (by omega) (fun h => absurd h (by omega)) (fun h30 => ?_)
      refine q_aload_n (pc := 33) dX8_failed_33 rfl ?_
      refine q_gI (pc := 34) 16 dX8_failed_34 fX8_81 rfl rfl rfl ?_
      refine q_goto (pc := 37) (tgt := 44) dX8_failed_37 (by decide) ?_
      refine q_pI (pc := 44) 18 dX8_failed_44 wX8_119 rfl rfl rfl ?_
      refine q_aload_n (pc := 47) dX8_failed_47 rfl ?_
      refine q_gI (pc := 48) 16 dX8_failed_48 fX8_81 rfl rfl rfl ?_
      have w16 : ∀ v, up (up τ 82 11 0) 82 18 v 82 16 = s'.1 := fun v => by rw [up_same, if_neg (by omega)]; exact u16
      rw [w16]
      refine q_ifle (pc := 51) (tgt := 58) dX8_failed_51 (by decide) (by omega) (fun h => absurd h (by omega)) (fun h51 => ?_)
      refine q_iconst (pc := 54) dX8_failed_54 ?_
      refine q_goto (pc := 55) (tgt := 59) dX8_failed_55 (by decide) ?_
      refine q_rz (pc := 59) dX8_failed_59 rfl (by first | exact bi_01 _ | omega) ?_
      first
      | (have z : s'.1 ≠ 0 := by omega
         refine ⟨bi_t z, (hF.1.tt (Fr.up (by simp))).tt (Fr.up (by simp)), by rw [up_same, if_neg (by omega), up_same, if_pos rfl], by rw [up_same, if_pos rfl, if_neg z]; exact u16, fun q => by rw [up_same, if_neg (by omega), up_same, if_neg (by omega)]; exact e17 q, fun i hi => by rw [up_same, if_neg (by omega), up_same, if_neg (by omega)]; exact hF.2 i (by omega)⟩)
      | (have z : s'.1 = 0 := by omega
         refine ⟨bi_f (fun q => q z), (hF.1.tt (Fr.up (by simp))).tt (Fr.up (by simp)), by rw [up_same, if_neg (by omega), up_same, if_pos rfl], by rw [up_same, if_pos rfl, if_pos z, up_same, if_neg (by omega)]; exact hF.2 18 (by omega), fun q => absurd z q, fun i hi => by rw [up_same, if_neg (by omega), up_same, if_neg (by omega)]; exact hF.2 i (by omega)⟩)
  obtain ⟨g1, g2, g3, g4, g5⟩ := id hS
  have g5 : (0 ≤ σ 82 14 ∧ σ 82 14 ≤ 4) ∧ -1000000 ≤ σ 82 15 ∧ σ 82 15 ≤ 1000 := g5
  have hi1 := hI.1
  by_cases z : s.1 = 0
  · have ht := tok_end (g4 z)
    by_cases y : s.2 < tl
    · have e : enS tl s = bdS 1 s := by unfold enS bdS; rw [if_pos ⟨z, y⟩, if_pos z]
      rw [e]
      have hn : σ 82 14 ≠ 1 := fun q => by have := ht.mp q; omega
      refine q_aload_n (pc := 0) dX8_failed_0 rfl ?_
      refine q_gI (pc := 1) 16 dX8_failed_1 fX8_81 rfl rfl rfl ?_
      refine q_ifne (pc := 4) (tgt := 20) dX8_failed_4 (by decide) (by omega) (fun h => absurd h (by omega)) (fun h4 => ?_)
      refine q_aload_n (pc := 7) dX8_failed_7 rfl ?_
      refine q_gI (pc := 8) 14 dX8_failed_8 fX8_105 rfl rfl rfl ?_
      refine q_iconst (pc := 11) dX8_failed_11 ?_
      refine q_icmpeq (pc := 12) (tgt := 20) dX8_failed_12 (by decide) (by omega) (by omega) (fun h => absurd h (by omega)) (fun h12 => ?_)
      refine q_aload_n (pc := 15) dX8_failed_15 rfl ?_
      refine q_iconst (pc := 16) dX8_failed_16 ?_
      refine q_V1v (pc := 17) dX8_failed_17 vX8_108 rfl rfl (Nat.le_of_ble_eq_true rfl) (Nat.le_of_ble_eq_true rfl) (m_bad hS hI (by omega)) (fun σ1 hc1 => ?_)
      obtain ⟨hS1, hF1⟩ := hc1
      exact tail _ _ hS1 (bdS_in hI (by omega)) hF1
    · have e : enS tl s = s := if_neg (fun q => y q.2)
      rw [e]
      have hn := ht.mpr (by omega)
      refine q_aload_n (pc := 0) dX8_failed_0 rfl ?_
      refine q_gI (pc := 1) 16 dX8_failed_1 fX8_81 rfl rfl rfl ?_
      refine q_ifne (pc := 4) (tgt := 20) dX8_failed_4 (by decide) (by omega) (fun h => absurd h (by omega)) (fun h4 => ?_)
      refine q_aload_n (pc := 7) dX8_failed_7 rfl ?_
      refine q_gI (pc := 8) 14 dX8_failed_8 fX8_105 rfl rfl rfl ?_
      refine q_iconst (pc := 11) dX8_failed_11 ?_
      refine q_icmpeq (pc := 12) (tgt := 20) dX8_failed_12 (by decide) (by omega) (by omega) (fun h12 => ?_) (fun h => absurd h (by omega))
      exact tail _ _ hS hI F6.rf
  · have e : enS tl s = s := if_neg (fun q => z q.1)
    rw [e]
    refine q_aload_n (pc := 0) dX8_failed_0 rfl ?_
    refine q_gI (pc := 1) 16 dX8_failed_1 fX8_81 rfl rfl rfl ?_
    refine q_ifne (pc := 4) (tgt := 20) dX8_failed_4 (by decide) (by omega) (fun h4 => ?_) (fun h => absurd h (by omega))
    exact tail _ _ hS hI F6.rf
end T8
