/-! ===== NightLevel: what is asked ===== -/
section T7
variable {G : qGl} {d : Nat} {σ : qM} {A : qA}
theorem t_X7_isWithin {n a b : Int} (hn : -2147483648 ≤ n ∧ n ≤ 2147483647) (ha : -2147483648 ≤ a ∧ a ≤ 2147483647) (hb : -2147483648 ≤ b ∧ b ≤ 2147483647) : qE G mX7_isWithin d 0 [(0, vi n), (1, vi a), (2, vi b)] [] σ (ri fun r σ1 => bi (a ≤ n ∧ n ≤ b) = r ∧ σ = σ1) := by
  refine q_iload_n (pc := 0) dX7_isWithin_0 rfl ?_
  refine q_iload_n (pc := 1) dX7_isWithin_1 rfl ?_
  refine q_icmplt (pc := 2) (tgt := 14) dX7_isWithin_2 (by decide) (by omega) (by omega) (fun h2 => ?_) (fun h2 => ?_)
  · refine q_iconst (pc := 14) dX7_isWithin_14 ?_
    refine q_rz (pc := 15) dX7_isWithin_15 rfl (by first | exact bi_01 _ | omega) ?_
    refine ⟨?_, rfl⟩
    unfold bi
    split <;> omega
  · refine q_iload_n (pc := 5) dX7_isWithin_5 rfl ?_
    refine q_iload_n (pc := 6) dX7_isWithin_6 rfl ?_
    refine q_icmpgt (pc := 7) (tgt := 14) dX7_isWithin_7 (by decide) (by omega) (by omega) (fun h7 => ?_) (fun h7 => ?_)
    · refine q_iconst (pc := 14) dX7_isWithin_14 ?_
      refine q_rz (pc := 15) dX7_isWithin_15 rfl (by first | exact bi_01 _ | omega) ?_
      refine ⟨?_, rfl⟩
      unfold bi
      split <;> omega
    · refine q_iconst (pc := 10) dX7_isWithin_10 ?_
      refine q_goto (pc := 11) (tgt := 15) dX7_isWithin_11 (by decide) ?_
      refine q_rz (pc := 15) dX7_isWithin_15 rfl (by first | exact bi_01 _ | omega) ?_
      refine ⟨?_, rfl⟩
      unfold bi
      split <;> omega
theorem t_X7_isFoot {n : Int} (hn : -2147483648 ≤ n ∧ n ≤ 2147483647) : qE G mX7_isFoot (d + 1) 0 [(0, vi n)] [] σ (ri fun r σ1 => bi (0 ≤ n ∧ n ≤ 2) = r ∧ σ = σ1) := by
  refine q_iload_n (pc := 0) dX7_isFoot_0 rfl ?_
  refine q_iconst (pc := 1) dX7_isFoot_1 ?_
  refine q_iconst (pc := 2) dX7_isFoot_2 ?_
  refine q_S3i (pc := 3) dX7_isFoot_3 vX7_62 (Nat.le_of_ble_eq_true rfl) (Nat.le_of_ble_eq_true rfl) (t_X7_isWithin (by omega) (by omega) (by omega)) (fun r1 σ1 hc1 => ?_)
  obtain ⟨rfl, rfl⟩ := hc1
  refine q_rz (pc := 6) dX7_isFoot_6 rfl (by first | exact bi_01 _ | omega) ?_
  exact ⟨rfl, rfl⟩
theorem t_X7_isAmount {n : Int} (hn : -2147483648 ≤ n ∧ n ≤ 2147483647) : qE G mX7_isAmount (d + 1) 0 [(0, vi n)] [] σ (ri fun r σ1 => bi (1 ≤ n ∧ n ≤ 20) = r ∧ σ = σ1) := by
  refine q_iload_n (pc := 0) dX7_isAmount_0 rfl ?_
  refine q_iconst (pc := 1) dX7_isAmount_1 ?_
  refine q_bipush (pc := 2) dX7_isAmount_2 (by decide +kernel) ?_
  refine q_S3i (pc := 4) dX7_isAmount_4 vX7_62 (Nat.le_of_ble_eq_true rfl) (Nat.le_of_ble_eq_true rfl) (t_X7_isWithin (by omega) (by omega) (by omega)) (fun r1 σ1 hc1 => ?_)
  obtain ⟨rfl, rfl⟩ := hc1
  refine q_rz (pc := 7) dX7_isAmount_7 rfl (by first | exact bi_01 _ | omega) ?_
  exact ⟨rfl, rfl⟩
theorem t_X7_found {n : Int} : qE G mX7_found d 0 [(0, vr 0), (1, vi n)] [] σ (ri fun r σ1 => -1000010 - n = r ∧ up σ 0 9 n = σ1) := by
  refine q_aload_n (pc := 0) dX7_found_0 rfl ?_
  refine q_iload_n (pc := 1) dX7_found_1 rfl ?_
  refine q_pI (pc := 2) 9 dX7_found_2 wX7_306 rfl rfl rfl ?_
  refine q_ldcw (pc := 5) (n := -1000010) kX7_309 dX7_found_5 ?_
  refine q_iload_n (pc := 8) dX7_found_8 rfl ?_
  refine q_isub (pc := 9) dX7_found_9 ?_
  refine q_ri (pc := 10) dX7_found_10 rfl ?_
  exact ⟨rfl, rfl⟩
theorem t_X7_unfound {n : Int} : qE G mX7_unfound d 0 [(0, vr 0), (1, vi n)] [] σ (ri fun r σ1 => n = r ∧ up σ 0 9 0 = σ1) := by
  refine q_aload_n (pc := 0) dX7_unfound_0 rfl ?_
  refine q_iconst (pc := 1) dX7_unfound_1 ?_
  refine q_pI (pc := 2) 9 dX7_unfound_2 wX7_306 rfl rfl rfl ?_
  refine q_iload_n (pc := 5) dX7_unfound_5 rfl ?_
  refine q_ri (pc := 6) dX7_unfound_6 rfl ?_
  exact ⟨rfl, rfl⟩
theorem x_foot {i w : Int} (hC : CR σ A) (hV : AV A) (hi : -2147483648 ≤ i ∧ i ≤ 2147483647) (hw : -2147483648 ≤ w ∧ w ≤ 2147483647) : qE G mX7_foot (d + 2) 0 [(0, vr 0), (1, vi i), (2, vi w)] [] σ (ri (pC σ (s_foot A i w))) := by
  have hR := hV.1
  have h01 := hR.f0
  have e0 := hC.1.1.1
  have hS : StR σ 19 A.1 := hC.1.2.2.1
  refine q_aload_n (pc := 0) dX7_foot_0 rfl ?_
  refine q_getR (pc := 1) dX7_foot_1 fX7_26 rfl rfl ?_
  refine q_gI (pc := 4) 0 dX7_foot_4 fX7_141 rfl rfl rfl ?_
  refine q_ifne (pc := 7) (tgt := 13) dX7_foot_7 (by decide) (by omega) (fun h7 => ?_) (fun h7 => ?_)
  · refine q_iload_n (pc := 13) dX7_foot_13 rfl ?_
    refine q_S1i (pc := 14) dX7_foot_14 vX7_177 (Nat.le_of_ble_eq_true rfl) (Nat.le_of_ble_eq_true rfl) (t_X7_isFoot (by omega)) (fun r1 σ1 hc1 => ?_)
    obtain ⟨rfl, rfl⟩ := hc1
    refine q_ifneb (pc := 17) (tgt := 23) dX7_foot_17 (by decide) (fun h17 => ?_) (fun h17 => ?_)
    · refine q_iload_n (pc := 23) dX7_foot_23 rfl ?_
      rcases (show w = 0 ∨ w = 1 ∨ (w ≠ 0 ∧ w ≠ 1) by omega) with hs24 | hs24 | hs24
      · refine q_lsw (pc := 24) (off := 28) (tgt := 52) dX7_foot_24 (by omega) (by decide) (by show Op.lookupswitch.offset [(0, 28), (1, 41)] 54 _ = _; rw [Op.lookupswitch.offset_cons, if_pos (by omega)]) (by decide) ?_
        refine q_aload_n (pc := 52) dX7_foot_52 rfl ?_
        refine q_getR (pc := 53) dX7_foot_53 fX7_26 rfl rfl ?_
        refine q_getR (pc := 56) dX7_foot_56 fX7_154 rfl rfl ?_
        refine q_getR (pc := 59) dX7_foot_59 fX7_197 rfl rfl ?_
        refine q_iload_n (pc := 62) dX7_foot_62 rfl ?_
        refine q_iald (pc := 63) dX7_foot_63 rfl (by omega) ?_
        refine q_ri (pc := 64) dX7_foot_64 rfl ?_
        refine pC.q0 hC ?_
        rw [if_pos (by omega), if_pos (by omega), if_pos (by omega)]
        exact (hS.h (by omega) (by omega)).symm
      · refine q_lsw (pc := 24) (off := 41) (tgt := 65) dX7_foot_24 (by omega) (by decide) (by show Op.lookupswitch.offset [(0, 28), (1, 41)] 54 _ = _; rw [Op.lookupswitch.offset_cons, if_neg (by omega)]; rw [Op.lookupswitch.offset_cons, if_pos (by omega)]) (by decide) ?_
        refine q_aload_n (pc := 65) dX7_foot_65 rfl ?_
        refine q_getR (pc := 66) dX7_foot_66 fX7_26 rfl rfl ?_
        refine q_getR (pc := 69) dX7_foot_69 fX7_154 rfl rfl ?_
        refine q_getR (pc := 72) dX7_foot_72 fX7_180 rfl rfl ?_
        refine q_iload_n (pc := 75) dX7_foot_75 rfl ?_
        refine q_iald (pc := 76) dX7_foot_76 rfl (by omega) ?_
        refine q_ri (pc := 77) dX7_foot_77 rfl ?_
        refine pC.q0 hC ?_
        rw [if_pos (by omega), if_pos (by omega), if_neg (by omega), if_pos (by omega)]
        exact (hS.s (by omega) (by omega)).symm
      · refine q_lsw (pc := 24) (off := 54) (tgt := 78) dX7_foot_24 (by omega) (by decide) (by show Op.lookupswitch.offset [(0, 28), (1, 41)] 54 _ = _; rw [Op.lookupswitch.offset_cons, if_neg (by omega)]; rw [Op.lookupswitch.offset_cons, if_neg (by omega)]; rfl) (by decide) ?_
        refine q_ldc (pc := 78) (n := -1000001) kX7_66 dX7_foot_78 ?_
        refine q_ri (pc := 80) dX7_foot_80 rfl ?_
        refine pC.q0 hC ?_
        repeat' split
        all_goals first | rfl | omega | contradiction | (simp_all; done)
    · refine q_ldc (pc := 20) (n := -1000001) kX7_66 dX7_foot_20 ?_
      refine q_ri (pc := 22) dX7_foot_22 rfl ?_
      refine pC.q0 hC ?_
      repeat' split
      all_goals first | rfl | omega | contradiction | (simp_all; done)
  · refine q_ldc (pc := 10) (n := -1000002) kX7_137 dX7_foot_10 ?_
    refine q_ri (pc := 12) dX7_foot_12 rfl ?_
    refine pC.q0 hC ?_
    repeat' split
    all_goals first | rfl | omega | contradiction | (simp_all; done)
theorem x_deed {i w : Int} (hC : CR σ A) (hV : AV A) (hi : -2147483648 ≤ i ∧ i ≤ 2147483647) (hw : -2147483648 ≤ w ∧ w ≤ 2147483647) : qE G mX7_deed (d + 1) 0 [(0, vr 0), (1, vi i), (2, vi w)] [] σ (ri (pC σ (s_deed A i w))) := by
  have hR := hV.1
  have h5 := hR.de
  have hD := hC.1.2.2.2
  refine q_aload_n (pc := 0) dX7_deed_0 rfl ?_
  refine q_getR (pc := 1) dX7_deed_1 fX7_26 rfl rfl ?_
  refine q_iload_n (pc := 4) dX7_deed_4 rfl ?_
  refine q_V1i (pc := 5) dX7_deed_5 vX7_164 rfl rfl (Nat.le_of_ble_eq_true rfl) (Nat.le_of_ble_eq_true rfl) (t_X4_hasDeed si15 hC.1 hV.1 (by omega)) (fun r1 σ1 hc1 => ?_)
  obtain ⟨rfl, rfl⟩ := hc1
  refine q_ifneb (pc := 8) (tgt := 14) dX7_deed_8 (by decide) (fun h8 => ?_) (fun h8 => ?_)
  · refine q_iload_n (pc := 14) dX7_deed_14 rfl ?_
    rcases (show w = 0 ∨ w = 1 ∨ w = 2 ∨ (w < 0 ∨ 2 < w) by omega) with hs15 | hs15 | hs15 | hs15
    · refine q_tsIn (pc := 15) (off := 25) (tgt := 40) dX7_deed_15 (by omega) (by omega) (by omega) (by rw [hs15]; rfl) (by decide) ?_
      refine q_aload_n (pc := 40) dX7_deed_40 rfl ?_
      refine q_getR (pc := 41) dX7_deed_41 fX7_26 rfl rfl ?_
      refine q_getR (pc := 44) dX7_deed_44 fX7_200 rfl rfl ?_
      refine q_iload_n (pc := 47) dX7_deed_47 rfl ?_
      refine q_iald (pc := 48) dX7_deed_48 rfl (by omega) ?_
      refine q_ri (pc := 49) dX7_deed_49 rfl ?_
      refine pC.q0 hC ?_
      rw [if_pos (by omega), if_pos (by omega)]
      exact (hD i (by omega) (by omega)).2.1.symm
    · refine q_tsIn (pc := 15) (off := 35) (tgt := 50) dX7_deed_15 (by omega) (by omega) (by omega) (by rw [hs15]; rfl) (by decide) ?_
      refine q_aload_n (pc := 50) dX7_deed_50 rfl ?_
      refine q_getR (pc := 51) dX7_deed_51 fX7_26 rfl rfl ?_
      refine q_getR (pc := 54) dX7_deed_54 fX7_191 rfl rfl ?_
      refine q_iload_n (pc := 57) dX7_deed_57 rfl ?_
      refine q_iald (pc := 58) dX7_deed_58 rfl (by omega) ?_
      refine q_ri (pc := 59) dX7_deed_59 rfl ?_
      refine pC.q0 hC ?_
      rw [if_pos (by omega), if_neg (by omega), if_pos (by omega)]
      exact (hD i (by omega) (by omega)).2.2.symm
    · refine q_tsIn (pc := 15) (off := 45) (tgt := 60) dX7_deed_15 (by omega) (by omega) (by omega) (by rw [hs15]; rfl) (by decide) ?_
      refine q_aload_n (pc := 60) dX7_deed_60 rfl ?_
      refine q_getR (pc := 61) dX7_deed_61 fX7_26 rfl rfl ?_
      refine q_iload_n (pc := 64) dX7_deed_64 rfl ?_
      refine q_V1i (pc := 65) dX7_deed_65 vX7_167 rfl rfl (Nat.le_of_ble_eq_true rfl) (Nat.le_of_ble_eq_true rfl) (t_X4_isDone si15 hC.1) (fun r2 σ2 hc2 => ?_)
      obtain ⟨rfl, rfl⟩ := hc2
      refine q_ifeqb (pc := 68) (tgt := 75) dX7_deed_68 (by decide) (fun h68 => ?_) (fun h68 => ?_)
      · refine q_iconst (pc := 75) dX7_deed_75 ?_
        refine q_ri (pc := 76) dX7_deed_76 rfl ?_
        refine pC.q0 hC ?_
        rw [if_pos (by omega), if_neg (by omega), if_neg (by omega), if_pos (by omega)]
        unfold bi
        first | exact if_pos (by assumption) | exact if_neg (by assumption)
      · refine q_iconst (pc := 71) dX7_deed_71 ?_
        refine q_goto (pc := 72) (tgt := 76) dX7_deed_72 (by decide) ?_
        refine q_ri (pc := 76) dX7_deed_76 rfl ?_
        refine pC.q0 hC ?_
        rw [if_pos (by omega), if_neg (by omega), if_neg (by omega), if_pos (by omega)]
        unfold bi
        first | exact if_pos (by assumption) | exact if_neg (by assumption)
    · refine q_tsOut (pc := 15) (tgt := 77) dX7_deed_15 (by omega) hs15 (by decide) ?_
      refine q_ldc (pc := 77) (n := -1000001) kX7_66 dX7_deed_77 ?_
      refine q_ri (pc := 79) dX7_deed_79 rfl ?_
      refine pC.q0 hC ?_
      repeat' split
      all_goals first | rfl | omega | contradiction | (simp_all; done)
  · refine q_ldc (pc := 11) (n := -1000001) kX7_66 dX7_deed_11 ?_
    refine q_ri (pc := 13) dX7_deed_13 rfl ?_
    refine pC.q0 hC ?_
    repeat' split
    all_goals first | rfl | omega | contradiction | (simp_all; done)
theorem x_lean {w : Int} (hC : CR σ A) (hV : AV A) (hw : -2147483648 ≤ w ∧ w ≤ 2147483647) : qE G mX7_lean (d + 3) 0 [(0, vr 0), (1, vi w)] [] σ (ri (pC σ (s_lean A w))) := by
  have hR := hV.1
  have h01 := hR.f0
  have e0 := hC.1.1.1
  have e6 := hC.1.1.2.2.2
  have hS : StR σ 19 A.1 := hC.1.2.2.1
  have hO := hR.1
  refine q_aload_n (pc := 0) dX7_lean_0 rfl ?_
  refine q_getR (pc := 1) dX7_lean_1 fX7_26 rfl rfl ?_
  refine q_gI (pc := 4) 0 dX7_lean_4 fX7_141 rfl rfl rfl ?_
  refine q_ifne (pc := 7) (tgt := 13) dX7_lean_7 (by decide) (by omega) (fun h7 => ?_) (fun h7 => ?_)
  · refine q_iload_n (pc := 13) dX7_lean_13 rfl ?_
    rcases (show w = 0 ∨ w = 1 ∨ w = 2 ∨ w = 3 ∨ w = 4 ∨ w = 5 ∨ (w < 0 ∨ 5 < w) by omega) with hs14 | hs14 | hs14 | hs14 | hs14 | hs14 | hs14
    · refine q_tsIn (pc := 14) (off := 38) (tgt := 52) dX7_lean_14 (by omega) (by omega) (by omega) (by rw [hs14]; rfl) (by decide) ?_
      refine q_aload_n (pc := 52) dX7_lean_52 rfl ?_
      refine q_getR (pc := 53) dX7_lean_53 fX7_26 rfl rfl ?_
      refine q_getR (pc := 56) dX7_lean_56 fX7_154 rfl rfl ?_
      refine q_V0i (pc := 59) dX7_lean_59 vX7_203 rfl rfl (Nat.le_of_ble_eq_true rfl) (Nat.le_of_ble_eq_true rfl) (t_X5_side st19 hS) (fun r1 σ1 hc1 => ?_)
      obtain ⟨rfl, rfl⟩ := hc1
      refine q_sipush (pc := 62) dX7_lean_62 (by decide +kernel) ?_
      refine q_iadd (pc := 65) dX7_lean_65 ?_
      refine q_ri (pc := 66) dX7_lean_66 rfl ?_
      refine pC.q0 hC ?_
      repeat' split
      all_goals first | rfl | omega | contradiction | (simp_all; done)
    · refine q_tsIn (pc := 14) (off := 53) (tgt := 67) dX7_lean_14 (by omega) (by omega) (by omega) (by rw [hs14]; rfl) (by decide) ?_
      refine q_aload_n (pc := 67) dX7_lean_67 rfl ?_
      refine q_getR (pc := 68) dX7_lean_68 fX7_26 rfl rfl ?_
      refine q_getR (pc := 71) dX7_lean_71 fX7_154 rfl rfl ?_
      refine q_V0i (pc := 74) dX7_lean_74 vX7_206 rfl rfl (Nat.le_of_ble_eq_true rfl) (Nat.le_of_ble_eq_true rfl) (t_X5_along st19 hS hO) (fun r2 σ2 hc2 => ?_)
      obtain ⟨rfl, rfl⟩ := hc2
      refine q_sipush (pc := 77) dX7_lean_77 (by decide +kernel) ?_
      refine q_iadd (pc := 80) dX7_lean_80 ?_
      refine q_ri (pc := 81) dX7_lean_81 rfl ?_
      refine pC.q0 hC ?_
      repeat' split
      all_goals first | rfl | omega | contradiction | (simp_all; done)
    · refine q_tsIn (pc := 14) (off := 68) (tgt := 82) dX7_lean_14 (by omega) (by omega) (by omega) (by rw [hs14]; rfl) (by decide) ?_
      refine q_aload_n (pc := 82) dX7_lean_82 rfl ?_
      refine q_getR (pc := 83) dX7_lean_83 fX7_26 rfl rfl ?_
      refine q_getR (pc := 86) dX7_lean_86 fX7_154 rfl rfl ?_
      refine q_V0i (pc := 89) dX7_lean_89 vX7_209 rfl rfl (Nat.le_of_ble_eq_true rfl) (Nat.le_of_ble_eq_true rfl) (t_X5_middle st19 hS hO) (fun r3 σ3 hc3 => ?_)
      obtain ⟨rfl, rfl⟩ := hc3
      refine q_ri (pc := 92) dX7_lean_92 rfl ?_
      refine pC.q0 hC ?_
      repeat' split
      all_goals first | rfl | omega | contradiction | (simp_all; done)
    · refine q_tsIn (pc := 14) (off := 79) (tgt := 93) dX7_lean_14 (by omega) (by omega) (by omega) (by rw [hs14]; rfl) (by decide) ?_
      refine q_aload_n (pc := 93) dX7_lean_93 rfl ?_
      refine q_getR (pc := 94) dX7_lean_94 fX7_26 rfl rfl ?_
      refine q_getR (pc := 97) dX7_lean_97 fX7_154 rfl rfl ?_
      refine q_V0i (pc := 100) dX7_lean_100 vX7_158 rfl rfl (Nat.le_of_ble_eq_true rfl) (Nat.le_of_ble_eq_true rfl) (t_X5_awry st19 hS hO) (fun r4 σ4 hc4 => ?_)
      obtain ⟨rfl, rfl⟩ := hc4
      refine q_ri (pc := 103) dX7_lean_103 rfl ?_
      refine pC.q0 hC ?_
      repeat' split
      all_goals first | rfl | omega | contradiction | (simp_all; done)
    · refine q_tsIn (pc := 14) (off := 90) (tgt := 104) dX7_lean_14 (by omega) (by omega) (by omega) (by rw [hs14]; rfl) (by decide) ?_
      refine q_aload_n (pc := 104) dX7_lean_104 rfl ?_
      refine q_getR (pc := 105) dX7_lean_105 fX7_26 rfl rfl ?_
      refine q_aload_n (pc := 108) dX7_lean_108 rfl ?_
      refine q_getR (pc := 109) dX7_lean_109 fX7_26 rfl rfl ?_
      refine q_getR (pc := 112) dX7_lean_112 fX7_154 rfl rfl ?_
      refine q_V1i (pc := 115) dX7_lean_115 vX7_212 rfl rfl (Nat.le_of_ble_eq_true rfl) (Nat.le_of_ble_eq_true rfl) (t_X4_isLevel si15 st19 hC.1 hR (by omega) hS hO ⟨rfl, rfl⟩) (fun r5 σ5 hc5 => ?_)
      obtain ⟨rfl, rfl⟩ := hc5
      refine q_ifeqb (pc := 118) (tgt := 125) dX7_lean_118 (by decide) (fun h118 => ?_) (fun h118 => ?_)
      · refine q_iconst (pc := 125) dX7_lean_125 ?_
        refine q_ri (pc := 126) dX7_lean_126 rfl ?_
        refine pC.q0 hC ?_
        rw [if_pos (by omega), if_neg (by omega), if_neg (by omega), if_neg (by omega), if_neg (by omega), if_pos (by omega)]
        unfold bi
        first | exact if_pos (by assumption) | exact if_neg (by assumption)
      · refine q_iconst (pc := 121) dX7_lean_121 ?_
        refine q_goto (pc := 122) (tgt := 126) dX7_lean_122 (by decide) ?_
        refine q_ri (pc := 126) dX7_lean_126 rfl ?_
        refine pC.q0 hC ?_
        rw [if_pos (by omega), if_neg (by omega), if_neg (by omega), if_neg (by omega), if_neg (by omega), if_pos (by omega)]
        unfold bi
        first | exact if_pos (by assumption) | exact if_neg (by assumption)
    · refine q_tsIn (pc := 14) (off := 113) (tgt := 127) dX7_lean_14 (by omega) (by omega) (by omega) (by rw [hs14]; rfl) (by decide) ?_
      refine q_aload_n (pc := 127) dX7_lean_127 rfl ?_
      refine q_getR (pc := 128) dX7_lean_128 fX7_26 rfl rfl ?_
      refine q_gI (pc := 131) 6 dX7_lean_131 fX7_174 rfl rfl rfl ?_
      refine q_ri (pc := 134) dX7_lean_134 rfl ?_
      refine pC.q0 hC ?_
      repeat' split
      all_goals first | rfl | omega | contradiction | (simp_all; done)
    · refine q_tsOut (pc := 14) (tgt := 135) dX7_lean_14 (by omega) hs14 (by decide) ?_
      refine q_ldc (pc := 135) (n := -1000001) kX7_66 dX7_lean_135 ?_
      refine q_ri (pc := 137) dX7_lean_137 rfl ?_
      refine pC.q0 hC ?_
      repeat' split
      all_goals first | rfl | omega | contradiction | (simp_all; done)
  · refine q_ldc (pc := 10) (n := -1000002) kX7_137 dX7_lean_10 ?_
    refine q_ri (pc := 12) dX7_lean_12 rfl ?_
    refine pC.q0 hC ?_
    repeat' split
    all_goals first | rfl | omega | contradiction | (simp_all; done)
theorem x_ahead {i n : Int} (hC : CR σ A) (hV : AV A) (hi : -2147483648 ≤ i ∧ i ≤ 2147483647) (hn : -2147483648 ≤ n ∧ n ≤ 2147483647) : qE G mX7_ahead (d + 5) 0 [(0, vr 0), (1, vi i), (2, vi n)] [] σ (ri (pC σ (s_ahead A i n))) := by
  have hR := hV.1
  have h01 := hR.f0
  have e0 := hC.1.1.1
  have hS : StR σ 19 A.1 := hC.1.2.2.1
  have hO := hR.1
  refine q_aload_n (pc := 0) dX7_ahead_0 rfl ?_
  refine q_getR (pc := 1) dX7_ahead_1 fX7_26 rfl rfl ?_
  refine q_gI (pc := 4) 0 dX7_ahead_4 fX7_141 rfl rfl rfl ?_
  refine q_ifne (pc := 7) (tgt := 13) dX7_ahead_7 (by decide) (by omega) (fun h7 => ?_) (fun h7 => ?_)
  · refine q_iload_n (pc := 13) dX7_ahead_13 rfl ?_
    refine q_S1i (pc := 14) dX7_ahead_14 vX7_177 (Nat.le_of_ble_eq_true rfl) (Nat.le_of_ble_eq_true rfl) (t_X7_isFoot (by omega)) (fun r1 σ1 hc1 => ?_)
    obtain ⟨rfl, rfl⟩ := hc1
    refine q_ifeqb (pc := 17) (tgt := 30) dX7_ahead_17 (by decide) (fun h17 => ?_) (fun h17 => ?_)
    · refine q_ldc (pc := 30) (n := -1000001) kX7_66 dX7_ahead_30 ?_
      refine q_ri (pc := 32) dX7_ahead_32 rfl ?_
      refine pC.q0 hC ?_
      repeat' split
      all_goals first | rfl | omega | contradiction | (simp_all; done)
    · refine q_iload_n (pc := 20) dX7_ahead_20 rfl ?_
      refine q_iconst (pc := 21) dX7_ahead_21 ?_
      refine q_bipush (pc := 22) dX7_ahead_22 (by decide +kernel) ?_
      refine q_S3i (pc := 24) dX7_ahead_24 vX7_62 (Nat.le_of_ble_eq_true rfl) (Nat.le_of_ble_eq_true rfl) (t_X7_isWithin (by omega) (by omega) (by omega)) (fun r2 σ2 hc2 => ?_)
      obtain ⟨rfl, rfl⟩ := hc2
      refine q_ifneb (pc := 27) (tgt := 33) dX7_ahead_27 (by decide) (fun h27 => ?_) (fun h27 => ?_)
      · refine q_aload_n (pc := 33) dX7_ahead_33 rfl ?_
        refine q_getR (pc := 34) dX7_ahead_34 fX7_47 rfl rfl ?_
        refine q_aload_n (pc := 37) dX7_ahead_37 rfl ?_
        refine q_getR (pc := 38) dX7_ahead_38 fX7_26 rfl rfl ?_
        refine q_aload_n (pc := 41) dX7_ahead_41 rfl ?_
        refine q_getR (pc := 42) dX7_ahead_42 fX7_26 rfl rfl ?_
        refine q_getR (pc := 45) dX7_ahead_45 fX7_154 rfl rfl ?_
        refine q_iload_n (pc := 48) dX7_ahead_48 rfl ?_
        refine q_V3r (pc := 49) dX7_ahead_49 vX7_216 rfl rfl (Nat.le_of_ble_eq_true rfl) (Nat.le_of_ble_eq_true rfl) (t_X2_behind (hC.H hV (by omega)) st19 hS hO ⟨rfl, rfl⟩ (by omega)) (fun r3 σ3 hc3 => ?_)
        obtain ⟨rfl, hF5, hS5, hO5⟩ := hc3
        refine q_getR (pc := 52) dX7_ahead_52 fX7_197 rfl rfl ?_
        refine q_iload_n (pc := 55) dX7_ahead_55 rfl ?_
        refine q_iald (pc := 56) dX7_ahead_56 rfl (by omega) ?_
        refine q_ri (pc := 57) dX7_ahead_57 rfl ?_
        refine pC.q hC hF5 (scr_in (by decide)) ?_
        rw [if_pos (by omega), if_pos (by omega)]
        exact (hS5.h (by omega) (by omega)).symm
      · refine q_ldc (pc := 30) (n := -1000001) kX7_66 dX7_ahead_30 ?_
        refine q_ri (pc := 32) dX7_ahead_32 rfl ?_
        refine pC.q0 hC ?_
        repeat' split
        all_goals first | rfl | omega | contradiction | (simp_all; done)
  · refine q_ldc (pc := 10) (n := -1000002) kX7_137 dX7_ahead_10 ?_
    refine q_ri (pc := 12) dX7_ahead_12 rfl ?_
    refine pC.q0 hC ?_
    repeat' split
    all_goals first | rfl | omega | contradiction | (simp_all; done)
theorem x_leanAhead {n w : Int} (hC : CR σ A) (hV : AV A) (hn : -2147483648 ≤ n ∧ n ≤ 2147483647) (hw : -2147483648 ≤ w ∧ w ≤ 2147483647) : qE G mX7_leanAhead (d + 5) 0 [(0, vr 0), (1, vi n), (2, vi w)] [] σ (ri (pC σ (s_leanAhead A n w))) := by
  have hR := hV.1
  have h01 := hR.f0
  have e0 := hC.1.1.1
  have hS : StR σ 19 A.1 := hC.1.2.2.1
  have hO := hR.1
  refine q_aload_n (pc := 0) dX7_leanAhead_0 rfl ?_
  refine q_getR (pc := 1) dX7_leanAhead_1 fX7_26 rfl rfl ?_
  refine q_gI (pc := 4) 0 dX7_leanAhead_4 fX7_141 rfl rfl rfl ?_
  refine q_ifne (pc := 7) (tgt := 13) dX7_leanAhead_7 (by decide) (by omega) (fun h7 => ?_) (fun h7 => ?_)
  · refine q_iload_n (pc := 13) dX7_leanAhead_13 rfl ?_
    refine q_iconst (pc := 14) dX7_leanAhead_14 ?_
    refine q_bipush (pc := 15) dX7_leanAhead_15 (by decide +kernel) ?_
    refine q_S3i (pc := 17) dX7_leanAhead_17 vX7_62 (Nat.le_of_ble_eq_true rfl) (Nat.le_of_ble_eq_true rfl) (t_X7_isWithin (by omega) (by omega) (by omega)) (fun r1 σ1 hc1 => ?_)
    obtain ⟨rfl, rfl⟩ := hc1
    refine q_ifeqb (pc := 20) (tgt := 32) dX7_leanAhead_20 (by decide) (fun h20 => ?_) (fun h20 => ?_)
    · refine q_ldc (pc := 32) (n := -1000001) kX7_66 dX7_leanAhead_32 ?_
      refine q_ri (pc := 34) dX7_leanAhead_34 rfl ?_
      refine pC.q0 hC ?_
      repeat' split
      all_goals first | rfl | omega | contradiction | (simp_all; done)
    · refine q_iload_n (pc := 23) dX7_leanAhead_23 rfl ?_
      refine q_iconst (pc := 24) dX7_leanAhead_24 ?_
      refine q_iconst (pc := 25) dX7_leanAhead_25 ?_
      refine q_S3i (pc := 26) dX7_leanAhead_26 vX7_62 (Nat.le_of_ble_eq_true rfl) (Nat.le_of_ble_eq_true rfl) (t_X7_isWithin (by omega) (by omega) (by omega)) (fun r2 σ2 hc2 => ?_)
      obtain ⟨rfl, rfl⟩ := hc2
      refine q_ifneb (pc := 29) (tgt := 35) dX7_leanAhead_29 (by decide) (fun h29 => ?_) (fun h29 => ?_)
      · refine q_aload_n (pc := 35) dX7_leanAhead_35 rfl ?_
        refine q_getR (pc := 36) dX7_leanAhead_36 fX7_47 rfl rfl ?_
        refine q_aload_n (pc := 39) dX7_leanAhead_39 rfl ?_
        refine q_getR (pc := 40) dX7_leanAhead_40 fX7_26 rfl rfl ?_
        refine q_aload_n (pc := 43) dX7_leanAhead_43 rfl ?_
        refine q_getR (pc := 44) dX7_leanAhead_44 fX7_26 rfl rfl ?_
        refine q_getR (pc := 47) dX7_leanAhead_47 fX7_154 rfl rfl ?_
        refine q_iload_n (pc := 50) dX7_leanAhead_50 rfl ?_
        refine q_V3r (pc := 51) dX7_leanAhead_51 vX7_216 rfl rfl (Nat.le_of_ble_eq_true rfl) (Nat.le_of_ble_eq_true rfl) (t_X2_behind (hC.H hV (by omega)) st19 hS hO ⟨rfl, rfl⟩ (by omega)) (fun r3 σ3 hc3 => ?_)
        obtain ⟨rfl, hF5, hS5, hO5⟩ := hc3
        refine q_iload_n (pc := 54) dX7_leanAhead_54 rfl ?_
        refine q_V1i (pc := 55) dX7_leanAhead_55 vX7_220 rfl rfl (Nat.le_of_ble_eq_true rfl) (Nat.le_of_ble_eq_true rfl) (t_X5_tilt st52 hS5 hO5 (by omega)) (fun r4 σ4 hc4 => ?_)
        obtain ⟨rfl, rfl⟩ := hc4
        refine q_sipush (pc := 58) dX7_leanAhead_58 (by decide +kernel) ?_
        refine q_iadd (pc := 61) dX7_leanAhead_61 ?_
        refine q_ri (pc := 62) dX7_leanAhead_62 rfl ?_
        refine pC.q hC hF5 (scr_in (by decide)) ?_
        rw [if_pos (by omega), if_pos (by omega)]
      · refine q_ldc (pc := 32) (n := -1000001) kX7_66 dX7_leanAhead_32 ?_
        refine q_ri (pc := 34) dX7_leanAhead_34 rfl ?_
        refine pC.q0 hC ?_
        repeat' split
        all_goals first | rfl | omega | contradiction | (simp_all; done)
  · refine q_ldc (pc := 10) (n := -1000002) kX7_137 dX7_leanAhead_10 ?_
    refine q_ri (pc := 12) dX7_leanAhead_12 rfl ?_
    refine pC.q0 hC ?_
    repeat' split
    all_goals first | rfl | omega | contradiction | (simp_all; done)
theorem x_lasts (hC : CR σ A) (hV : AV A) : qE G mX7_lasts (d + 6) 0 [(0, vr 0)] [] σ (ri (pC σ (s_lasts A))) := by
  have hR := hV.1
  have h01 := hR.f0
  have e0 := hC.1.1.1
  refine q_aload_n (pc := 0) dX7_lasts_0 rfl ?_
  refine q_getR (pc := 1) dX7_lasts_1 fX7_26 rfl rfl ?_
  refine q_gI (pc := 4) 0 dX7_lasts_4 fX7_141 rfl rfl rfl ?_
  refine q_ifne (pc := 7) (tgt := 13) dX7_lasts_7 (by decide) (by omega) (fun h7 => ?_) (fun h7 => ?_)
  · refine q_aload_n (pc := 13) dX7_lasts_13 rfl ?_
    refine q_getR (pc := 14) dX7_lasts_14 fX7_47 rfl rfl ?_
    refine q_aload_n (pc := 17) dX7_lasts_17 rfl ?_
    refine q_getR (pc := 18) dX7_lasts_18 fX7_26 rfl rfl ?_
    refine q_iconst (pc := 21) dX7_lasts_21 ?_
    refine q_V2i (pc := 22) dX7_lasts_22 vX7_223 rfl rfl (Nat.le_of_ble_eq_true rfl) (Nat.le_of_ble_eq_true rfl) (t_X2_untilLevelIs (hC.H hV (by omega)) (by omega)) (fun r1 σ1 hc1 => ?_)
    obtain ⟨rfl, hF5⟩ := hc1
    refine q_ri (pc := 25) dX7_lasts_25 rfl ?_
    refine pC.q hC hF5 (scr_in (by decide)) ?_
    rw [if_pos (by omega)]
  · refine q_ldc (pc := 10) (n := -1000002) kX7_137 dX7_lasts_10 ?_
    refine q_ri (pc := 12) dX7_lasts_12 rfl ?_
    refine pC.q0 hC ?_
    repeat' split
    all_goals first | rfl | omega | contradiction | (simp_all; done)
theorem x_first (hC : CR σ A) (hV : AV A) : qE G mX7_first (d + 6) 0 [(0, vr 0)] [] σ (ri (pC σ (s_first A))) := by
  have hR := hV.1
  have h01 := hR.f0
  have e0 := hC.1.1.1
  have hu := mUntil_in A.1 1 61 0
  refine q_aload_n (pc := 0) dX7_first_0 rfl ?_
  refine q_getR (pc := 1) dX7_first_1 fX7_26 rfl rfl ?_
  refine q_gI (pc := 4) 0 dX7_first_4 fX7_141 rfl rfl rfl ?_
  refine q_ifne (pc := 7) (tgt := 13) dX7_first_7 (by decide) (by omega) (fun h7 => ?_) (fun h7 => ?_)
  · refine q_aload_n (pc := 13) dX7_first_13 rfl ?_
    refine q_getR (pc := 14) dX7_first_14 fX7_47 rfl rfl ?_
    refine q_aload_n (pc := 17) dX7_first_17 rfl ?_
    refine q_getR (pc := 18) dX7_first_18 fX7_26 rfl rfl ?_
    refine q_iconst (pc := 21) dX7_first_21 ?_
    refine q_V2i (pc := 22) dX7_first_22 vX7_223 rfl rfl (Nat.le_of_ble_eq_true rfl) (Nat.le_of_ble_eq_true rfl) (t_X2_untilLevelIs (hC.H hV (by omega)) (by omega)) (fun r1 σ1 hc1 => ?_)
    obtain ⟨rfl, hF5⟩ := hc1
    refine q_istore_n (pc := 25) dX7_first_25 (Nat.le_of_ble_eq_true rfl) ?_
    refine q_iload_n (pc := 26) dX7_first_26 rfl ?_
    refine q_bipush (pc := 27) dX7_first_27 (by decide +kernel) ?_
    refine q_icmple (pc := 29) (tgt := 37) dX7_first_29 (by decide) (by omega) (by omega) (fun h29 => ?_) (fun h29 => ?_)
    · refine q_iload_n (pc := 37) dX7_first_37 rfl ?_
      refine q_ri (pc := 38) dX7_first_38 rfl ?_
      refine pC.q hC hF5 (scr_in (by decide)) ?_
      rw [if_pos (by omega)]
      first | exact if_pos (by omega) | exact if_neg (by omega)
    · refine q_ldc (pc := 32) (n := -1000000) kX7_227 dX7_first_32 ?_
      refine q_goto (pc := 34) (tgt := 38) dX7_first_34 (by decide) ?_
      refine q_ri (pc := 38) dX7_first_38 rfl ?_
      refine pC.q hC hF5 (scr_in (by decide)) ?_
      rw [if_pos (by omega)]
      first | exact if_pos (by omega) | exact if_neg (by omega)
  · refine q_ldc (pc := 10) (n := -1000002) kX7_137 dX7_first_10 ?_
    refine q_ri (pc := 12) dX7_first_12 rfl ?_
    refine pC.q0 hC ?_
    repeat' split
    all_goals first | rfl | omega | contradiction | (simp_all; done)
theorem x_attempt {i : Int} (hC : CR σ A) (hV : AV A) (hi : -2147483648 ≤ i ∧ i ≤ 2147483647) : qE G mX7_attempt (d + 6) 0 [(0, vr 0), (1, vi i)] [] σ (ri (pC σ (s_attempt A i))) := by
  have hR := hV.1
  refine q_aload_n (pc := 0) dX7_attempt_0 rfl ?_
  refine q_getR (pc := 1) dX7_attempt_1 fX7_26 rfl rfl ?_
  refine q_iload_n (pc := 4) dX7_attempt_4 rfl ?_
  refine q_V1i (pc := 5) dX7_attempt_5 vX7_164 rfl rfl (Nat.le_of_ble_eq_true rfl) (Nat.le_of_ble_eq_true rfl) (t_X4_hasDeed si15 hC.1 hV.1 (by omega)) (fun r1 σ1 hc1 => ?_)
  obtain ⟨rfl, rfl⟩ := hc1
  refine q_ifneb (pc := 8) (tgt := 14) dX7_attempt_8 (by decide) (fun h8 => ?_) (fun h8 => ?_)
  · refine q_aload_n (pc := 14) dX7_attempt_14 rfl ?_
    refine q_getR (pc := 15) dX7_attempt_15 fX7_26 rfl rfl ?_
    refine q_iload_n (pc := 18) dX7_attempt_18 rfl ?_
    refine q_V1i (pc := 19) dX7_attempt_19 vX7_167 rfl rfl (Nat.le_of_ble_eq_true rfl) (Nat.le_of_ble_eq_true rfl) (t_X4_isDone si15 hC.1) (fun r2 σ2 hc2 => ?_)
    obtain ⟨rfl, rfl⟩ := hc2
    refine q_ifeqb (pc := 22) (tgt := 28) dX7_attempt_22 (by decide) (fun h22 => ?_) (fun h22 => ?_)
    · refine q_aload_n (pc := 28) dX7_attempt_28 rfl ?_
      refine q_getR (pc := 29) dX7_attempt_29 fX7_47 rfl rfl ?_
      refine q_aload_n (pc := 32) dX7_attempt_32 rfl ?_
      refine q_getR (pc := 33) dX7_attempt_33 fX7_26 rfl rfl ?_
      refine q_iload_n (pc := 36) dX7_attempt_36 rfl ?_
      refine q_V2i (pc := 37) dX7_attempt_37 vX7_228 rfl rfl (Nat.le_of_ble_eq_true rfl) (Nat.le_of_ble_eq_true rfl) (t_X2_awryIf (hC.H hV (hR.one (i := i) (by omega) (by omega))) (by omega)) (fun r3 σ3 hc3 => ?_)
      obtain ⟨rfl, hF5⟩ := hc3
      refine q_ri (pc := 40) dX7_attempt_40 rfl ?_
      refine pC.q hC hF5 (scr_in (by decide)) ?_
      rw [if_pos (by omega), if_neg (by assumption)]
    · refine q_ldc (pc := 25) (n := -1000002) kX7_137 dX7_attempt_25 ?_
      refine q_ri (pc := 27) dX7_attempt_27 rfl ?_
      refine pC.q0 hC ?_
      repeat' split
      all_goals first | rfl | omega | contradiction | (simp_all; done)
  · refine q_ldc (pc := 11) (n := -1000001) kX7_66 dX7_attempt_11 ?_
    refine q_ri (pc := 13) dX7_attempt_13 rfl ?_
    refine pC.q0 hC ?_
    repeat' split
    all_goals first | rfl | omega | contradiction | (simp_all; done)
theorem x_best {w : Int} (hC : CR σ A) (hV : AV A) (hw : -2147483648 ≤ w ∧ w ≤ 2147483647) : qE G mX7_best (d + 7) 0 [(0, vr 0), (1, vi w)] [] σ (ri (pC σ (s_best A w))) := by
  have hR := hV.1
  have h01 := hR.f0
  have h5 := hR.de
  have e0 := hC.1.1.1
  have hb := mBest_in hR (A.1 5).toNat (by omega)
  have hb2 := mBest_2 (f := A.1) (A.1 5).toNat
  refine q_aload_n (pc := 0) dX7_best_0 rfl ?_
  refine q_getR (pc := 1) dX7_best_1 fX7_26 rfl rfl ?_
  refine q_gI (pc := 4) 0 dX7_best_4 fX7_141 rfl rfl rfl ?_
  refine q_ifne (pc := 7) (tgt := 13) dX7_best_7 (by decide) (by omega) (fun h7 => ?_) (fun h7 => ?_)
  · refine q_iload_n (pc := 13) dX7_best_13 rfl ?_
    refine q_iconst (pc := 14) dX7_best_14 ?_
    refine q_iconst (pc := 15) dX7_best_15 ?_
    refine q_S3i (pc := 16) dX7_best_16 vX7_62 (Nat.le_of_ble_eq_true rfl) (Nat.le_of_ble_eq_true rfl) (t_X7_isWithin (by omega) (by omega) (by omega)) (fun r1 σ1 hc1 => ?_)
    obtain ⟨rfl, rfl⟩ := hc1
    refine q_ifneb (pc := 19) (tgt := 25) dX7_best_19 (by decide) (fun h19 => ?_) (fun h19 => ?_)
    · refine q_aload_n (pc := 25) dX7_best_25 rfl ?_
      refine q_getR (pc := 26) dX7_best_26 fX7_47 rfl rfl ?_
      refine q_aload_n (pc := 29) dX7_best_29 rfl ?_
      refine q_getR (pc := 30) dX7_best_30 fX7_26 rfl rfl ?_
      refine q_V1i (pc := 33) dX7_best_33 vX7_232 rfl rfl (Nat.le_of_ble_eq_true rfl) (Nat.le_of_ble_eq_true rfl) (t_X2_bestDeed (hC.H hV (by omega))) (fun r2 σ2 hc2 => ?_)
      obtain ⟨rfl, hF5⟩ := hc2
      refine q_istore_n (pc := 36) dX7_best_36 (Nat.le_of_ble_eq_true rfl) ?_
      refine q_iload_n (pc := 37) dX7_best_37 rfl ?_
      refine q_ldc (pc := 38) (n := -1000000) kX7_227 dX7_best_38 ?_
      refine q_icmpeq (pc := 40) (tgt := 47) dX7_best_40 (by decide) (by omega) (by omega) (fun h40 => ?_) (fun h40 => ?_)
      · refine q_iload_n (pc := 47) dX7_best_47 rfl ?_
        refine q_goto (pc := 48) (tgt := 63) dX7_best_48 (by decide) ?_
        refine q_ri (pc := 63) dX7_best_63 rfl ?_
        first
        | (refine pC.q hC hF5 (scr_in (by decide)) ?_
           rw [if_pos (by omega), if_pos (by omega)]
           split
           · rfl
           · first | omega | (rw [hb2 (by omega)]; omega))
        | (refine pC.q hC (hF5.tt hF6) (scr_in (by decide)) ?_
           rw [if_pos (by omega), if_pos (by omega), if_neg (by omega)]
           omega)
      · refine q_iload_n (pc := 43) dX7_best_43 rfl ?_
        refine q_ifne (pc := 44) (tgt := 51) dX7_best_44 (by decide) (by omega) (fun h44 => ?_) (fun h44 => ?_)
        · refine q_aload_n (pc := 51) dX7_best_51 rfl ?_
          refine q_getR (pc := 52) dX7_best_52 fX7_47 rfl rfl ?_
          refine q_aload_n (pc := 55) dX7_best_55 rfl ?_
          refine q_getR (pc := 56) dX7_best_56 fX7_26 rfl rfl ?_
          refine q_iload_n (pc := 59) dX7_best_59 rfl ?_
          refine q_V2i (pc := 60) dX7_best_60 vX7_228 rfl rfl (Nat.le_of_ble_eq_true rfl) (Nat.le_of_ble_eq_true rfl) (t_X2_awryIf ((hC.H hV (by omega)).fr3 hF5) (by omega)) (fun r3 σ3 hc3 => ?_)
          obtain ⟨rfl, hF6⟩ := hc3
          refine q_ri (pc := 63) dX7_best_63 rfl ?_
          first
          | (refine pC.q hC hF5 (scr_in (by decide)) ?_
             rw [if_pos (by omega), if_pos (by omega)]
             split
             · rfl
             · first | omega | (rw [hb2 (by omega)]; omega))
          | (refine pC.q hC (hF5.tt hF6) (scr_in (by decide)) ?_
             rw [if_pos (by omega), if_pos (by omega), if_neg (by omega)]
             omega)
        · refine q_iload_n (pc := 47) dX7_best_47 rfl ?_
          refine q_goto (pc := 48) (tgt := 63) dX7_best_48 (by decide) ?_
          refine q_ri (pc := 63) dX7_best_63 rfl ?_
          first
          | (refine pC.q hC hF5 (scr_in (by decide)) ?_
             rw [if_pos (by omega), if_pos (by omega)]
             split
             · rfl
             · first | omega | (rw [hb2 (by omega)]; omega))
          | (refine pC.q hC (hF5.tt hF6) (scr_in (by decide)) ?_
             rw [if_pos (by omega), if_pos (by omega), if_neg (by omega)]
             omega)
    · refine q_ldc (pc := 22) (n := -1000001) kX7_66 dX7_best_22 ?_
      refine q_ri (pc := 24) dX7_best_24 rfl ?_
      refine pC.q0 hC ?_
      repeat' split
      all_goals first | rfl | omega | contradiction | (simp_all; done)
  · refine q_ldc (pc := 10) (n := -1000002) kX7_137 dX7_best_10 ?_
    refine q_ri (pc := 12) dX7_best_12 rfl ?_
    refine pC.q0 hC ?_
    repeat' split
    all_goals first | rfl | omega | contradiction | (simp_all; done)
theorem x_worst {n w : Int} (hC : CR σ A) (hV : AV A) (hn : -2147483648 ≤ n ∧ n ≤ 2147483647) (hw : -2147483648 ≤ w ∧ w ≤ 2147483647) : qE G mX7_worst (d + 6) 0 [(0, vr 0), (1, vi n), (2, vi w)] [] σ (ri (pC σ (s_worst A n w))) := by
  have hR := hV.1
  have h01 := hR.f0
  have e0 := hC.1.1.1
  have hO := hR.1
  have hw1 := mWorst_in hO (n + 1).toNat
  refine q_aload_n (pc := 0) dX7_worst_0 rfl ?_
  refine q_getR (pc := 1) dX7_worst_1 fX7_26 rfl rfl ?_
  refine q_gI (pc := 4) 0 dX7_worst_4 fX7_141 rfl rfl rfl ?_
  refine q_ifne (pc := 7) (tgt := 13) dX7_worst_7 (by decide) (by omega) (fun h7 => ?_) (fun h7 => ?_)
  · refine q_iload_n (pc := 13) dX7_worst_13 rfl ?_
    refine q_iconst (pc := 14) dX7_worst_14 ?_
    refine q_bipush (pc := 15) dX7_worst_15 (by decide +kernel) ?_
    refine q_S3i (pc := 17) dX7_worst_17 vX7_62 (Nat.le_of_ble_eq_true rfl) (Nat.le_of_ble_eq_true rfl) (t_X7_isWithin (by omega) (by omega) (by omega)) (fun r1 σ1 hc1 => ?_)
    obtain ⟨rfl, rfl⟩ := hc1
    refine q_ifeqb (pc := 20) (tgt := 32) dX7_worst_20 (by decide) (fun h20 => ?_) (fun h20 => ?_)
    · refine q_ldc (pc := 32) (n := -1000001) kX7_66 dX7_worst_32 ?_
      refine q_ri (pc := 34) dX7_worst_34 rfl ?_
      refine pC.q0 hC ?_
      repeat' split
      all_goals first | rfl | omega | contradiction | (simp_all; done)
    · refine q_iload_n (pc := 23) dX7_worst_23 rfl ?_
      refine q_iconst (pc := 24) dX7_worst_24 ?_
      refine q_iconst (pc := 25) dX7_worst_25 ?_
      refine q_S3i (pc := 26) dX7_worst_26 vX7_62 (Nat.le_of_ble_eq_true rfl) (Nat.le_of_ble_eq_true rfl) (t_X7_isWithin (by omega) (by omega) (by omega)) (fun r2 σ2 hc2 => ?_)
      obtain ⟨rfl, rfl⟩ := hc2
      refine q_ifneb (pc := 29) (tgt := 35) dX7_worst_29 (by decide) (fun h29 => ?_) (fun h29 => ?_)
      · refine q_aload_n (pc := 35) dX7_worst_35 rfl ?_
        refine q_getR (pc := 36) dX7_worst_36 fX7_47 rfl rfl ?_
        refine q_aload_n (pc := 39) dX7_worst_39 rfl ?_
        refine q_getR (pc := 40) dX7_worst_40 fX7_26 rfl rfl ?_
        refine q_iload_n (pc := 43) dX7_worst_43 rfl ?_
        refine q_V2i (pc := 44) dX7_worst_44 vX7_251 rfl rfl (Nat.le_of_ble_eq_true rfl) (Nat.le_of_ble_eq_true rfl) (t_X2_worstHour (hC.H hV (by omega)) (by omega)) (fun r3 σ3 hc3 => ?_)
        obtain ⟨rfl, hF5⟩ := hc3
        refine q_istore_n (pc := 47) dX7_worst_47 (Nat.le_of_ble_eq_true rfl) ?_
        refine q_iload_n (pc := 48) dX7_worst_48 rfl ?_
        refine q_iconst (pc := 49) dX7_worst_49 ?_
        refine q_icmpne (pc := 50) (tgt := 57) dX7_worst_50 (by decide) (by omega) (by omega) (fun h50 => ?_) (fun h50 => ?_)
        · refine q_aload_n (pc := 57) dX7_worst_57 rfl ?_
          refine q_getR (pc := 58) dX7_worst_58 fX7_47 rfl rfl ?_
          refine q_aload_n (pc := 61) dX7_worst_61 rfl ?_
          refine q_getR (pc := 62) dX7_worst_62 fX7_26 rfl rfl ?_
          refine q_aload_n (pc := 65) dX7_worst_65 rfl ?_
          refine q_getR (pc := 66) dX7_worst_66 fX7_26 rfl rfl ?_
          refine q_getR (pc := 69) dX7_worst_69 fX7_154 rfl rfl ?_
          refine q_iload_n (pc := 72) dX7_worst_72 rfl ?_
          refine q_V3r (pc := 73) dX7_worst_73 vX7_216 rfl rfl (Nat.le_of_ble_eq_true rfl) (Nat.le_of_ble_eq_true rfl) (t_X2_behind ((hC.H hV (by omega)).fr2 hF5) st19 ((hC.H hV (by omega)).fr2 hF5).st hO ⟨rfl, rfl⟩ (by omega)) (fun r4 σ4 hc4 => ?_)
          obtain ⟨rfl, hF6, hS6, hO6⟩ := hc4
          refine q_V0i (pc := 76) dX7_worst_76 vX7_158 rfl rfl (Nat.le_of_ble_eq_true rfl) (Nat.le_of_ble_eq_true rfl) (t_X5_awry st52 hS6 hO6) (fun r5 σ5 hc5 => ?_)
          obtain ⟨rfl, rfl⟩ := hc5
          refine q_ri (pc := 79) dX7_worst_79 rfl ?_
          first
          | (refine pC.q hC hF5 (scr_in (by decide)) ?_
             rw [if_pos (by omega), if_pos (by omega), if_neg (by omega)]
             done)
          | (refine pC.q hC (hF5.tt hF6) (scr_in (by decide)) ?_
             rw [if_pos (by omega), if_pos (by omega), if_pos (by omega)]
             have := mWorst_eq hO n.toNat
             rw [show n.toNat + 1 = (n + 1).toNat by omega] at this
             exact this)
        · refine q_iload_n (pc := 53) dX7_worst_53 rfl ?_
          refine q_goto (pc := 54) (tgt := 79) dX7_worst_54 (by decide) ?_
          refine q_ri (pc := 79) dX7_worst_79 rfl ?_
          first
          | (refine pC.q hC hF5 (scr_in (by decide)) ?_
             rw [if_pos (by omega), if_pos (by omega), if_neg (by omega)]
             done)
          | (refine pC.q hC (hF5.tt hF6) (scr_in (by decide)) ?_
             rw [if_pos (by omega), if_pos (by omega), if_pos (by omega)]
             have := mWorst_eq hO n.toNat
             rw [show n.toNat + 1 = (n + 1).toNat by omega] at this
             exact this)
      · refine q_ldc (pc := 32) (n := -1000001) kX7_66 dX7_worst_32 ?_
        refine q_ri (pc := 34) dX7_worst_34 rfl ?_
        refine pC.q0 hC ?_
        repeat' split
        all_goals first | rfl | omega | contradiction | (simp_all; done)
  · refine q_ldc (pc := 10) (n := -1000002) kX7_137 dX7_worst_10 ?_
    refine q_ri (pc := 12) dX7_worst_12 rfl ?_
    refine pC.q0 hC ?_
    repeat' split
    all_goals first | rfl | omega | contradiction | (simp_all; done)
theorem x_fault (hC : CR σ A) : qE G mX7_fault d 0 [(0, vr 0)] [] σ (ri (pC σ (s_fault A))) := by
  refine q_aload_n (pc := 0) dX7_fault_0 rfl ?_
  refine q_gI (pc := 1) 8 dX7_fault_1 fX7_117 rfl rfl rfl ?_
  refine q_ri (pc := 4) dX7_fault_4 rfl ?_
  exact pC.q0 hC hC.2.2.2.1.symm
theorem x_status (hC : CR σ A) : qE G mX7_status d 0 [(0, vr 0)] [] σ (ri (pC σ (s_status A))) := by
  refine q_aload_n (pc := 0) dX7_status_0 rfl ?_
  refine q_gI (pc := 1) 9 dX7_status_1 fX7_306 rfl rfl rfl ?_
  refine q_ri (pc := 4) dX7_status_4 rfl ?_
  exact pC.q0 hC hC.2.2.1.symm
theorem x_kind {i : Int} (hC : CR σ A) (hV : AV A) (hi : -2147483648 ≤ i ∧ i ≤ 2147483647) : qE G mX7_kind (d + 1) 0 [(0, vr 0), (1, vi i)] [] σ (ri (pC σ (s_kind A i))) := by
  have h5 := hV.1.de
  have hD := hC.1.2.2.2
  refine q_aload_n (pc := 0) dX7_kind_0 rfl ?_
  refine q_getR (pc := 1) dX7_kind_1 fX7_26 rfl rfl ?_
  refine q_iload_n (pc := 4) dX7_kind_4 rfl ?_
  refine q_V1i (pc := 5) dX7_kind_5 vX7_164 rfl rfl (Nat.le_of_ble_eq_true rfl) (Nat.le_of_ble_eq_true rfl) (t_X4_hasDeed si15 hC.1 hV.1 (by omega)) (fun r1 σ1 hc1 => ?_)
  obtain ⟨rfl, rfl⟩ := hc1
  refine q_ifeqb (pc := 8) (tgt := 23) dX7_kind_8 (by decide) (fun h8 => ?_) (fun h8 => ?_)
  · refine q_ldc (pc := 23) (n := -1000001) kX7_66 dX7_kind_23 ?_
    refine q_ri (pc := 25) dX7_kind_25 rfl ?_
    refine pC.q0 hC ?_
    first
    | (rw [if_pos (by omega)]
       exact (hD i (by omega) (by omega)).1.symm)
    | rw [if_neg (by omega)]
  · refine q_aload_n (pc := 11) dX7_kind_11 rfl ?_
    refine q_getR (pc := 12) dX7_kind_12 fX7_26 rfl rfl ?_
    refine q_getR (pc := 15) dX7_kind_15 fX7_282 rfl rfl ?_
    refine q_iload_n (pc := 18) dX7_kind_18 rfl ?_
    refine q_iald (pc := 19) dX7_kind_19 rfl (by omega) ?_
    refine q_goto (pc := 20) (tgt := 25) dX7_kind_20 (by decide) ?_
    refine q_ri (pc := 25) dX7_kind_25 rfl ?_
    refine pC.q0 hC ?_
    first
    | (rw [if_pos (by omega)]
       exact (hD i (by omega) (by omega)).1.symm)
    | rw [if_neg (by omega)]
theorem x_trace {i : Int} (hC : CR σ A) (hV : AV A) (hi : -2147483648 ≤ i ∧ i ≤ 2147483647) : qE G mX7_trace d 0 [(0, vr 0), (1, vi i)] [] σ (ri (pC σ (s_trace A i))) := by
  obtain ⟨t1, t2⟩ := hC.2.2.2.2.2.2.2
  have hT := hV.2.2.2.2.2.2.2.1
  refine q_iload_n (pc := 0) dX7_trace_0 rfl ?_
  refine q_iflt (pc := 1) (tgt := 27) dX7_trace_1 (by decide) (by omega) (fun h1 => ?_) (fun h1 => ?_)
  · refine q_ldc (pc := 27) (n := -1000000) kX7_227 dX7_trace_27 ?_
    refine q_ri (pc := 29) dX7_trace_29 rfl ?_
    refine pC.q0 hC ?_
    first
    | (rw [if_pos (by omega)]
       exact (t2 i (by omega) (by omega)).symm)
    | rw [if_neg (by omega)]
  · refine q_iload_n (pc := 4) dX7_trace_4 rfl ?_
    refine q_aload_n (pc := 5) dX7_trace_5 rfl ?_
    refine q_getR (pc := 6) dX7_trace_6 fX7_54 rfl rfl ?_
    refine q_gI (pc := 9) 1 dX7_trace_9 fX7_291 rfl rfl rfl ?_
    refine q_icmpge (pc := 12) (tgt := 27) dX7_trace_12 (by decide) (by omega) (by omega) (fun h12 => ?_) (fun h12 => ?_)
    · refine q_ldc (pc := 27) (n := -1000000) kX7_227 dX7_trace_27 ?_
      refine q_ri (pc := 29) dX7_trace_29 rfl ?_
      refine pC.q0 hC ?_
      first
      | (rw [if_pos (by omega)]
         exact (t2 i (by omega) (by omega)).symm)
      | rw [if_neg (by omega)]
    · refine q_aload_n (pc := 15) dX7_trace_15 rfl ?_
      refine q_getR (pc := 16) dX7_trace_16 fX7_54 rfl rfl ?_
      refine q_getR (pc := 19) dX7_trace_19 fX7_294 rfl rfl ?_
      refine q_iload_n (pc := 22) dX7_trace_22 rfl ?_
      refine q_iald (pc := 23) dX7_trace_23 rfl (by omega) ?_
      refine q_goto (pc := 24) (tgt := 29) dX7_trace_24 (by decide) ?_
      refine q_ri (pc := 29) dX7_trace_29 rfl ?_
      refine pC.q0 hC ?_
      first
      | (rw [if_pos (by omega)]
         exact (t2 i (by omega) (by omega)).symm)
      | rw [if_neg (by omega)]
theorem x_count {w : Int} (hC : CR σ A) (hV : AV A) (hw : -2147483648 ≤ w ∧ w ≤ 2147483647) : qE G mX7_count (d + 3) 0 [(0, vr 0), (1, vi w)] [] σ (ri (pC σ (s_count A w))) := by
  have hR := hV.1
  have hS : StR σ 19 A.1 := hC.1.2.2.1
  have hO := hR.1
  obtain ⟨⟨e0, e4, e5, e6⟩, -⟩ := id hC.1
  have ea := hC.2.1.2.1
  have et := hC.2.2.2.2.2.1.1
  refine q_iload_n (pc := 0) dX7_count_0 rfl ?_
  rcases (show w = 0 ∨ w = 1 ∨ w = 2 ∨ w = 3 ∨ w = 4 ∨ w = 5 ∨ w = 6 ∨ w = 7 ∨ (w < 0 ∨ 7 < w) by omega) with hs1 | hs1 | hs1 | hs1 | hs1 | hs1 | hs1 | hs1 | hs1
  · refine q_tsIn (pc := 1) (off := 47) (tgt := 48) dX7_count_1 (by omega) (by omega) (by omega) (by rw [hs1]; rfl) (by decide) ?_
    refine q_aload_n (pc := 48) dX7_count_48 rfl ?_
    refine q_getR (pc := 49) dX7_count_49 fX7_10 rfl rfl ?_
    refine q_V0i (pc := 52) dX7_count_52 vX7_297 rfl rfl (Nat.le_of_ble_eq_true rfl) (Nat.le_of_ble_eq_true rfl) (t_X3_howMany hC.2.2.2.2.1 hV.2.2.2.2.1) (fun r1 σ1 hc1 => ?_)
    obtain ⟨rfl, rfl⟩ := hc1
    refine q_ri (pc := 55) dX7_count_55 rfl ?_
    refine pC.q0 hC ?_
    repeat' split
    all_goals first | rfl | omega | contradiction | (simp_all; done)
  · refine q_tsIn (pc := 1) (off := 55) (tgt := 56) dX7_count_1 (by omega) (by omega) (by omega) (by rw [hs1]; rfl) (by decide) ?_
    refine q_aload_n (pc := 56) dX7_count_56 rfl ?_
    refine q_getR (pc := 57) dX7_count_57 fX7_26 rfl rfl ?_
    refine q_gI (pc := 60) 5 dX7_count_60 fX7_131 rfl rfl rfl ?_
    refine q_ri (pc := 63) dX7_count_63 rfl ?_
    refine pC.q0 hC ?_
    repeat' split
    all_goals first | rfl | omega | contradiction | (simp_all; done)
  · refine q_tsIn (pc := 1) (off := 63) (tgt := 64) dX7_count_1 (by omega) (by omega) (by omega) (by rw [hs1]; rfl) (by decide) ?_
    refine q_aload_n (pc := 64) dX7_count_64 rfl ?_
    refine q_getR (pc := 65) dX7_count_65 fX7_26 rfl rfl ?_
    refine q_gI (pc := 68) 6 dX7_count_68 fX7_174 rfl rfl rfl ?_
    refine q_ri (pc := 71) dX7_count_71 rfl ?_
    refine pC.q0 hC ?_
    repeat' split
    all_goals first | rfl | omega | contradiction | (simp_all; done)
  · refine q_tsIn (pc := 1) (off := 71) (tgt := 72) dX7_count_1 (by omega) (by omega) (by omega) (by rw [hs1]; rfl) (by decide) ?_
    refine q_aload_n (pc := 72) dX7_count_72 rfl ?_
    refine q_getR (pc := 73) dX7_count_73 fX7_26 rfl rfl ?_
    refine q_gI (pc := 76) 4 dX7_count_76 fX7_145 rfl rfl rfl ?_
    refine q_ri (pc := 79) dX7_count_79 rfl ?_
    refine pC.q0 hC ?_
    repeat' split
    all_goals first | rfl | omega | contradiction | (simp_all; done)
  · refine q_tsIn (pc := 1) (off := 79) (tgt := 80) dX7_count_1 (by omega) (by omega) (by omega) (by rw [hs1]; rfl) (by decide) ?_
    refine q_aload_n (pc := 80) dX7_count_80 rfl ?_
    refine q_getR (pc := 81) dX7_count_81 fX7_26 rfl rfl ?_
    refine q_getR (pc := 84) dX7_count_84 fX7_154 rfl rfl ?_
    refine q_V0i (pc := 87) dX7_count_87 vX7_158 rfl rfl (Nat.le_of_ble_eq_true rfl) (Nat.le_of_ble_eq_true rfl) (t_X5_awry st19 hS hO) (fun r2 σ2 hc2 => ?_)
    obtain ⟨rfl, rfl⟩ := hc2
    refine q_ri (pc := 90) dX7_count_90 rfl ?_
    refine pC.q0 hC ?_
    repeat' split
    all_goals first | rfl | omega | contradiction | (simp_all; done)
  · refine q_tsIn (pc := 1) (off := 90) (tgt := 91) dX7_count_1 (by omega) (by omega) (by omega) (by rw [hs1]; rfl) (by decide) ?_
    refine q_aload_n (pc := 91) dX7_count_91 rfl ?_
    refine q_getR (pc := 92) dX7_count_92 fX7_26 rfl rfl ?_
    refine q_getR (pc := 95) dX7_count_95 fX7_154 rfl rfl ?_
    refine q_V0i (pc := 98) dX7_count_98 vX7_300 rfl rfl (Nat.le_of_ble_eq_true rfl) (Nat.le_of_ble_eq_true rfl) (t_X5_allHeights st19 hS) (fun r3 σ3 hc3 => ?_)
    obtain ⟨rfl, rfl⟩ := hc3
    refine q_ri (pc := 101) dX7_count_101 rfl ?_
    refine pC.q0 hC ?_
    repeat' split
    all_goals first | rfl | omega | contradiction | (simp_all; done)
  · refine q_tsIn (pc := 1) (off := 101) (tgt := 102) dX7_count_1 (by omega) (by omega) (by omega) (by rw [hs1]; rfl) (by decide) ?_
    refine q_aload_n (pc := 102) dX7_count_102 rfl ?_
    refine q_getR (pc := 103) dX7_count_103 fX7_40 rfl rfl ?_
    refine q_gI (pc := 106) 2 dX7_count_106 fX7_134 rfl rfl rfl ?_
    refine q_ri (pc := 109) dX7_count_109 rfl ?_
    refine pC.q0 hC ?_
    repeat' split
    all_goals first | rfl | omega | contradiction | (simp_all; done)
  · refine q_tsIn (pc := 1) (off := 109) (tgt := 110) dX7_count_1 (by omega) (by omega) (by omega) (by rw [hs1]; rfl) (by decide) ?_
    refine q_aload_n (pc := 110) dX7_count_110 rfl ?_
    refine q_getR (pc := 111) dX7_count_111 fX7_19 rfl rfl ?_
    refine q_gI (pc := 114) 1 dX7_count_114 fX7_303 rfl rfl rfl ?_
    refine q_ri (pc := 117) dX7_count_117 rfl ?_
    refine pC.q0 hC ?_
    repeat' split
    all_goals first | rfl | omega | contradiction | (simp_all; done)
  · refine q_tsOut (pc := 1) (tgt := 118) dX7_count_1 (by omega) hs1 (by decide) ?_
    refine q_ldc (pc := 118) (n := -1000001) kX7_66 dX7_count_118 ?_
    refine q_ri (pc := 120) dX7_count_120 rfl ?_
    refine pC.q0 hC ?_
    repeat' split
    all_goals first | rfl | omega | contradiction | (simp_all; done)
end T7
