/-! ===== the reference: what is asked ===== -/
theorem sh86 : qSh 86 = (1, 34, []) := by decide
theorem sh88 : qSh 88 = (1, 34, []) := by decide
section T8
variable {G : qGl} {d : Nat} {σ : qM} {A : qA} {f : Int → Int}
theorem m_foot {i w : Int} (hM : MR σ A) (hV : AV A) (hi : -2147483648 ≤ i ∧ i ≤ 2147483647) (hw : -2147483648 ≤ w ∧ w ≤ 2147483647) : qE G mX8_foot (d + 2) 0 [(0, vr 82), (1, vi i), (2, vi w)] [] σ (ri (pM σ (s_foot A i w))) := by
  have hR := hV.1
  have h01 := hR.f0
  refine q_aload_n (pc := 0) dX8_foot_0 rfl ?_
  refine q_iconst (pc := 1) dX8_foot_1 ?_
  refine q_pI (pc := 2) 0 dX8_foot_2 wX8_50 rfl rfl rfl ?_
  have hM0 := hM
  have hM := hM.fld (i := 0) (v := 0) (by decide)
  have hF0 : ∀ j, j < 82 → up σ 82 0 0 j = σ j := fun j hj => up_ne (by omega)
  generalize up σ 82 0 0 = τ at hM hF0 ⊢
  refine q_aload_n (pc := 5) dX8_foot_5 rfl ?_
  refine q_V0i (pc := 6) dX8_foot_6 vX8_184 rfl rfl (Nat.le_of_ble_eq_true rfl) (Nat.le_of_ble_eq_true rfl) (t_X8_isThere hM.1 h01) (fun r1 σ1 hc1 => ?_)
  obtain ⟨rfl, rfl⟩ := hc1
  refine q_ifneb (pc := 9) (tgt := 15) dX8_foot_9 (by decide) (fun h9 => ?_) (fun h9 => ?_)
  · refine q_iload_n (pc := 15) dX8_foot_15 rfl ?_
    refine q_S1i (pc := 16) dX8_foot_16 vX8_205 (Nat.le_of_ble_eq_true rfl) (Nat.le_of_ble_eq_true rfl) (t_X8_isFoot (by omega)) (fun r2 σ2 hc2 => ?_)
    obtain ⟨rfl, rfl⟩ := hc2
    refine q_ifeqb (pc := 19) (tgt := 32) dX8_foot_19 (by decide) (fun h19 => ?_) (fun h19 => ?_)
    · refine q_ldc (pc := 32) (n := -1000001) kX8_70 dX8_foot_32 ?_
      refine q_ri (pc := 34) dX8_foot_34 rfl ?_
      refine pM.q0 hF0 hM ?_
      repeat' split
      all_goals first | rfl | omega | contradiction | (simp_all; done)
    · refine q_iload_n (pc := 22) dX8_foot_22 rfl ?_
      refine q_i2l (pc := 23) dX8_foot_23 (by omega) ?_
      refine q_lconst0 (pc := 24) dX8_foot_24 ?_
      refine q_lconst1 (pc := 25) dX8_foot_25 ?_
      refine q_S3i (pc := 26) dX8_foot_26 vX8_60 (Nat.le_of_ble_eq_true rfl) (Nat.le_of_ble_eq_true rfl) (t_X8_in (by omega) (by omega) (by omega)) (fun r3 σ3 hc3 => ?_)
      obtain ⟨rfl, rfl⟩ := hc3
      refine q_ifneb (pc := 29) (tgt := 35) dX8_foot_29 (by decide) (fun h29 => ?_) (fun h29 => ?_)
      · refine q_aload_n (pc := 35) dX8_foot_35 rfl ?_
        refine q_getR (pc := 36) dX8_foot_36 fX8_19 rfl rfl ?_
        refine q_iload_n (pc := 39) dX8_foot_39 rfl ?_
        refine q_ifne (pc := 40) (tgt := 48) dX8_foot_40 (by decide) (by omega) (fun h40 => ?_) (fun h40 => ?_)
        · refine q_bipush (pc := 48) dX8_foot_48 (by decide +kernel) ?_
          refine q_iload_n (pc := 50) dX8_foot_50 rfl ?_
          refine q_iadd (pc := 51) dX8_foot_51 ?_
          refine q_iald (pc := 52) dX8_foot_52 rfl (by omega) ?_
          refine q_ri (pc := 53) dX8_foot_53 rfl ?_
          refine pM.q0 hF0 hM ?_
          rw [if_pos (by omega), if_pos (by omega)]
          first
          | (rw [if_pos (by omega)]; exact (hM.1 (7 + i) (by omega) (by omega)).symm)
          | (rw [if_neg (by omega), if_pos (by omega)]; exact (hM.1 (10 + i) (by omega) (by omega)).symm)
        · refine q_bipush (pc := 43) dX8_foot_43 (by decide +kernel) ?_
          refine q_goto (pc := 45) (tgt := 50) dX8_foot_45 (by decide) ?_
          refine q_iload_n (pc := 50) dX8_foot_50 rfl ?_
          refine q_iadd (pc := 51) dX8_foot_51 ?_
          refine q_iald (pc := 52) dX8_foot_52 rfl (by omega) ?_
          refine q_ri (pc := 53) dX8_foot_53 rfl ?_
          refine pM.q0 hF0 hM ?_
          rw [if_pos (by omega), if_pos (by omega)]
          first
          | (rw [if_pos (by omega)]; exact (hM.1 (7 + i) (by omega) (by omega)).symm)
          | (rw [if_neg (by omega), if_pos (by omega)]; exact (hM.1 (10 + i) (by omega) (by omega)).symm)
      · refine q_ldc (pc := 32) (n := -1000001) kX8_70 dX8_foot_32 ?_
        refine q_ri (pc := 34) dX8_foot_34 rfl ?_
        refine pM.q0 hF0 hM ?_
        repeat' split
        all_goals first | rfl | omega | contradiction | (simp_all; done)
  · refine q_ldc (pc := 12) (n := -1000002) kX8_187 dX8_foot_12 ?_
    refine q_ri (pc := 14) dX8_foot_14 rfl ?_
    refine pM.q0 hF0 hM ?_
    repeat' split
    all_goals first | rfl | omega | contradiction | (simp_all; done)
theorem m_deed {i w : Int} (hM : MR σ A) (hV : AV A) (hi : -2147483648 ≤ i ∧ i ≤ 2147483647) (hw : -2147483648 ≤ w ∧ w ≤ 2147483647) : qE G mX8_deed (d + 2) 0 [(0, vr 82), (1, vi i), (2, vi w)] [] σ (ri (pM σ (s_deed A i w))) := by
  have hR := hV.1
  have h5 := hR.de
  refine q_aload_n (pc := 0) dX8_deed_0 rfl ?_
  refine q_iconst (pc := 1) dX8_deed_1 ?_
  refine q_pI (pc := 2) 0 dX8_deed_2 wX8_50 rfl rfl rfl ?_
  have hM0 := hM
  have hM := hM.fld (i := 0) (v := 0) (by decide)
  have hF0 : ∀ j, j < 82 → up σ 82 0 0 j = σ j := fun j hj => up_ne (by omega)
  generalize up σ 82 0 0 = τ at hM hF0 ⊢
  refine q_aload_n (pc := 5) dX8_deed_5 rfl ?_
  refine q_iload_n (pc := 6) dX8_deed_6 rfl ?_
  refine q_V1i (pc := 7) dX8_deed_7 vX8_196 rfl rfl (Nat.le_of_ble_eq_true rfl) (Nat.le_of_ble_eq_true rfl) (t_X8_isDeed hM.1 h5 (by omega)) (fun r1 σ1 hc1 => ?_)
  obtain ⟨rfl, rfl⟩ := hc1
  refine q_ifeqb (pc := 10) (tgt := 25) dX8_deed_10 (by decide) (fun h10 => ?_) (fun h10 => ?_)
  · refine q_ldc (pc := 25) (n := -1000001) kX8_70 dX8_deed_25 ?_
    refine q_ri (pc := 27) dX8_deed_27 rfl ?_
    refine pM.q0 hF0 hM ?_
    repeat' split
    all_goals first | rfl | omega | contradiction | (simp_all; done)
  · refine q_iload_n (pc := 13) dX8_deed_13 rfl ?_
    refine q_i2l (pc := 14) dX8_deed_14 (by omega) ?_
    refine q_lconst0 (pc := 15) dX8_deed_15 ?_
    refine q_ldc2 (pc := 16) (n := 2) kX8_68 dX8_deed_16 ?_
    refine q_S3i (pc := 19) dX8_deed_19 vX8_60 (Nat.le_of_ble_eq_true rfl) (Nat.le_of_ble_eq_true rfl) (t_X8_in (by omega) (by omega) (by omega)) (fun r2 σ2 hc2 => ?_)
    obtain ⟨rfl, rfl⟩ := hc2
    refine q_ifneb (pc := 22) (tgt := 28) dX8_deed_22 (by decide) (fun h22 => ?_) (fun h22 => ?_)
    · refine q_iload_n (pc := 28) dX8_deed_28 rfl ?_
      refine q_iconst (pc := 29) dX8_deed_29 ?_
      refine q_icmpge (pc := 30) (tgt := 47) dX8_deed_30 (by decide) (by omega) (by omega) (fun h30 => ?_) (fun h30 => ?_)
      · refine q_aload_n (pc := 47) dX8_deed_47 rfl ?_
        refine q_iload_n (pc := 48) dX8_deed_48 rfl ?_
        refine q_V1i (pc := 49) dX8_deed_49 vX8_199 rfl rfl (Nat.le_of_ble_eq_true rfl) (Nat.le_of_ble_eq_true rfl) (t_X8_isDone hM.1) (fun r3 σ3 hc3 => ?_)
        obtain ⟨rfl, rfl⟩ := hc3
        refine q_ifeqb (pc := 52) (tgt := 59) dX8_deed_52 (by decide) (fun h52 => ?_) (fun h52 => ?_)
        · refine q_iconst (pc := 59) dX8_deed_59 ?_
          refine q_ri (pc := 60) dX8_deed_60 rfl ?_
          refine pM.q0 hF0 hM ?_
          rw [if_pos (by omega)]
          first
          | (rw [if_neg (by omega), if_neg (by omega), if_pos (by omega)]
             unfold bi
             first | exact if_pos (by assumption) | exact if_neg (by assumption))
          | (rcases (show w = 0 ∨ w = 1 by omega) with q | q
             · subst q; rw [if_pos rfl, show 14 + 3 * i = 13 + 3 * i + (1 + 0) by omega]
             · subst q; rw [if_neg (by omega), if_pos rfl, show 15 + 3 * i = 13 + 3 * i + (1 + 1) by omega])
        · refine q_iconst (pc := 55) dX8_deed_55 ?_
          refine q_goto (pc := 56) (tgt := 60) dX8_deed_56 (by decide) ?_
          refine q_ri (pc := 60) dX8_deed_60 rfl ?_
          refine pM.q0 hF0 hM ?_
          rw [if_pos (by omega)]
          first
          | (rw [if_neg (by omega), if_neg (by omega), if_pos (by omega)]
             unfold bi
             first | exact if_pos (by assumption) | exact if_neg (by assumption))
          | (rcases (show w = 0 ∨ w = 1 by omega) with q | q
             · subst q; rw [if_pos rfl, show 14 + 3 * i = 13 + 3 * i + (1 + 0) by omega]
             · subst q; rw [if_neg (by omega), if_pos rfl, show 15 + 3 * i = 13 + 3 * i + (1 + 1) by omega])
      · refine q_aload_n (pc := 33) dX8_deed_33 rfl ?_
        refine q_getR (pc := 34) dX8_deed_34 fX8_19 rfl rfl ?_
        refine q_iload_n (pc := 37) dX8_deed_37 rfl ?_
        refine q_iconst (pc := 38) dX8_deed_38 ?_
        refine q_iload_n (pc := 39) dX8_deed_39 rfl ?_
        refine q_iadd (pc := 40) dX8_deed_40 ?_
        refine q_S3i (pc := 41) dX8_deed_41 vX8_172 (Nat.le_of_ble_eq_true rfl) (Nat.le_of_ble_eq_true rfl) (t_X8_of sh86 hM.1 (by omega) (by omega)) (fun r4 σ4 hc4 => ?_)
        obtain ⟨rfl, rfl⟩ := hc4
        refine q_goto (pc := 44) (tgt := 60) dX8_deed_44 (by decide) ?_
        refine q_ri (pc := 60) dX8_deed_60 rfl ?_
        refine pM.q0 hF0 hM ?_
        rw [if_pos (by omega)]
        first
        | (rw [if_neg (by omega), if_neg (by omega), if_pos (by omega)]
           unfold bi
           first | exact if_pos (by assumption) | exact if_neg (by assumption))
        | (rcases (show w = 0 ∨ w = 1 by omega) with q | q
           · subst q; rw [if_pos rfl, show 14 + 3 * i = 13 + 3 * i + (1 + 0) by omega]
           · subst q; rw [if_neg (by omega), if_pos rfl, show 15 + 3 * i = 13 + 3 * i + (1 + 1) by omega])
    · refine q_ldc (pc := 25) (n := -1000001) kX8_70 dX8_deed_25 ?_
      refine q_ri (pc := 27) dX8_deed_27 rfl ?_
      refine pM.q0 hF0 hM ?_
      repeat' split
      all_goals first | rfl | omega | contradiction | (simp_all; done)
theorem m_lean {w : Int} (hM : MR σ A) (hV : AV A) (hw : -2147483648 ≤ w ∧ w ≤ 2147483647) : qE G mX8_lean (d + 3) 0 [(0, vr 82), (1, vi w)] [] σ (ri (pM σ (s_lean A w))) := by
  have hR := hV.1
  have h01 := hR.f0
  have hO := hR.1
  refine q_aload_n (pc := 0) dX8_lean_0 rfl ?_
  refine q_iconst (pc := 1) dX8_lean_1 ?_
  refine q_pI (pc := 2) 0 dX8_lean_2 wX8_50 rfl rfl rfl ?_
  have hM0 := hM
  have hM := hM.fld (i := 0) (v := 0) (by decide)
  have hF0 : ∀ j, j < 82 → up σ 82 0 0 j = σ j := fun j hj => up_ne (by omega)
  generalize up σ 82 0 0 = τ at hM hF0 ⊢
  refine q_aload_n (pc := 5) dX8_lean_5 rfl ?_
  refine q_V0i (pc := 6) dX8_lean_6 vX8_184 rfl rfl (Nat.le_of_ble_eq_true rfl) (Nat.le_of_ble_eq_true rfl) (t_X8_isThere hM.1 h01) (fun r1 σ1 hc1 => ?_)
  obtain ⟨rfl, rfl⟩ := hc1
  refine q_ifneb (pc := 9) (tgt := 15) dX8_lean_9 (by decide) (fun h9 => ?_) (fun h9 => ?_)
  · refine q_iload_n (pc := 15) dX8_lean_15 rfl ?_
    rcases (show w = 0 ∨ w = 1 ∨ w = 2 ∨ w = 3 ∨ w = 4 ∨ w = 5 ∨ (w < 0 ∨ 5 < w) by omega) with hs16 | hs16 | hs16 | hs16 | hs16 | hs16 | hs16
    · refine q_tsIn (pc := 16) (off := 40) (tgt := 56) dX8_lean_16 (by omega) (by omega) (by omega) (by rw [hs16]; rfl) (by decide) ?_
      refine q_sipush (pc := 56) dX8_lean_56 (by decide +kernel) ?_
      refine q_aload_n (pc := 59) dX8_lean_59 rfl ?_
      refine q_getR (pc := 60) dX8_lean_60 fX8_19 rfl rfl ?_
      refine q_S1i (pc := 63) dX8_lean_63 vX8_159 (Nat.le_of_ble_eq_true rfl) (Nat.le_of_ble_eq_true rfl) (t_X8_sideOf sh86 hM.1) (fun r2 σ2 hc2 => ?_)
      obtain ⟨rfl, rfl⟩ := hc2
      refine q_iadd (pc := 66) dX8_lean_66 ?_
      refine q_ri (pc := 67) dX8_lean_67 rfl ?_
      refine pM.q0 hF0 hM ?_
      repeat' split
      all_goals first | rfl | omega | contradiction | (simp_all; done)
    · refine q_tsIn (pc := 16) (off := 52) (tgt := 68) dX8_lean_16 (by omega) (by omega) (by omega) (by rw [hs16]; rfl) (by decide) ?_
      refine q_sipush (pc := 68) dX8_lean_68 (by decide +kernel) ?_
      refine q_aload_n (pc := 71) dX8_lean_71 rfl ?_
      refine q_getR (pc := 72) dX8_lean_72 fX8_19 rfl rfl ?_
      refine q_S1i (pc := 75) dX8_lean_75 vX8_165 (Nat.le_of_ble_eq_true rfl) (Nat.le_of_ble_eq_true rfl) (t_X8_alongOf sh86 hM.1 hO) (fun r3 σ3 hc3 => ?_)
      obtain ⟨rfl, rfl⟩ := hc3
      refine q_iadd (pc := 78) dX8_lean_78 ?_
      refine q_ri (pc := 79) dX8_lean_79 rfl ?_
      refine pM.q0 hF0 hM ?_
      repeat' split
      all_goals first | rfl | omega | contradiction | (simp_all; done)
    · refine q_tsIn (pc := 16) (off := 64) (tgt := 80) dX8_lean_16 (by omega) (by omega) (by omega) (by rw [hs16]; rfl) (by decide) ?_
      refine q_aload_n (pc := 80) dX8_lean_80 rfl ?_
      refine q_getR (pc := 81) dX8_lean_81 fX8_19 rfl rfl ?_
      refine q_S1i (pc := 84) dX8_lean_84 vX8_155 (Nat.le_of_ble_eq_true rfl) (Nat.le_of_ble_eq_true rfl) (t_X8_middleOf sh86 hM.1 hO) (fun r4 σ4 hc4 => ?_)
      obtain ⟨rfl, rfl⟩ := hc4
      refine q_ri (pc := 87) dX8_lean_87 rfl ?_
      refine pM.q0 hF0 hM ?_
      repeat' split
      all_goals first | rfl | omega | contradiction | (simp_all; done)
    · refine q_tsIn (pc := 16) (off := 72) (tgt := 88) dX8_lean_16 (by omega) (by omega) (by omega) (by rw [hs16]; rfl) (by decide) ?_
      refine q_aload_n (pc := 88) dX8_lean_88 rfl ?_
      refine q_getR (pc := 89) dX8_lean_89 fX8_19 rfl rfl ?_
      refine q_S1i (pc := 92) dX8_lean_92 vX8_193 (Nat.le_of_ble_eq_true rfl) (Nat.le_of_ble_eq_true rfl) (t_X8_awryOf sh86 hM.1 hO) (fun r5 σ5 hc5 => ?_)
      obtain ⟨rfl, rfl⟩ := hc5
      refine q_ri (pc := 95) dX8_lean_95 rfl ?_
      refine pM.q0 hF0 hM ?_
      repeat' split
      all_goals first | rfl | omega | contradiction | (simp_all; done)
    · refine q_tsIn (pc := 16) (off := 80) (tgt := 96) dX8_lean_16 (by omega) (by omega) (by omega) (by rw [hs16]; rfl) (by decide) ?_
      refine q_aload_n (pc := 96) dX8_lean_96 rfl ?_
      refine q_getR (pc := 97) dX8_lean_97 fX8_19 rfl rfl ?_
      refine q_S1i (pc := 100) dX8_lean_100 vX8_210 (Nat.le_of_ble_eq_true rfl) (Nat.le_of_ble_eq_true rfl) (t_X8_isLevel sh86 hM.1 hO (hR.law (by omega)).1 (hR.law (by omega)).2.1) (fun r6 σ6 hc6 => ?_)
      obtain ⟨rfl, rfl⟩ := hc6
      refine q_ifeqb (pc := 103) (tgt := 110) dX8_lean_103 (by decide) (fun h103 => ?_) (fun h103 => ?_)
      · refine q_iconst (pc := 110) dX8_lean_110 ?_
        refine q_ri (pc := 111) dX8_lean_111 rfl ?_
        refine pM.q0 hF0 hM ?_
        rw [if_pos (by omega), if_neg (by omega), if_neg (by omega), if_neg (by omega), if_neg (by omega), if_pos (by omega)]
        unfold bi
        first | exact if_pos (by assumption) | exact if_neg (by assumption)
      · refine q_iconst (pc := 106) dX8_lean_106 ?_
        refine q_goto (pc := 107) (tgt := 111) dX8_lean_107 (by decide) ?_
        refine q_ri (pc := 111) dX8_lean_111 rfl ?_
        refine pM.q0 hF0 hM ?_
        rw [if_pos (by omega), if_neg (by omega), if_neg (by omega), if_neg (by omega), if_neg (by omega), if_pos (by omega)]
        unfold bi
        first | exact if_pos (by assumption) | exact if_neg (by assumption)
    · refine q_tsIn (pc := 16) (off := 96) (tgt := 112) dX8_lean_16 (by omega) (by omega) (by omega) (by rw [hs16]; rfl) (by decide) ?_
      refine q_aload_n (pc := 112) dX8_lean_112 rfl ?_
      refine q_getR (pc := 113) dX8_lean_113 fX8_19 rfl rfl ?_
      refine q_bipush (pc := 116) dX8_lean_116 (by decide +kernel) ?_
      refine q_iald (pc := 118) dX8_lean_118 rfl (by omega) ?_
      refine q_ri (pc := 119) dX8_lean_119 rfl ?_
      refine pM.q0 hF0 hM ?_
      rw [if_pos (by omega), if_neg (by omega), if_neg (by omega), if_neg (by omega), if_neg (by omega), if_neg (by omega), if_pos (by omega)]
      exact (hM.1 6 (by omega) (by omega)).symm
    · refine q_tsOut (pc := 16) (tgt := 120) dX8_lean_16 (by omega) hs16 (by decide) ?_
      refine q_ldc (pc := 120) (n := -1000001) kX8_70 dX8_lean_120 ?_
      refine q_ri (pc := 122) dX8_lean_122 rfl ?_
      refine pM.q0 hF0 hM ?_
      repeat' split
      all_goals first | rfl | omega | contradiction | (simp_all; done)
  · refine q_ldc (pc := 12) (n := -1000002) kX8_187 dX8_lean_12 ?_
    refine q_ri (pc := 14) dX8_lean_14 rfl ?_
    refine pM.q0 hF0 hM ?_
    repeat' split
    all_goals first | rfl | omega | contradiction | (simp_all; done)
theorem m_ahead {i n : Int} (hM : MR σ A) (hV : AV A) (hi : -2147483648 ≤ i ∧ i ≤ 2147483647) (hn : -2147483648 ≤ n ∧ n ≤ 2147483647) : qE G mX8_ahead (d + 3) 0 [(0, vr 82), (1, vi i), (2, vi n)] [] σ (ri (pM σ (s_ahead A i n))) := by
  have hR := hV.1
  have h01 := hR.f0
  have hO := hR.1
  have h4 := hR.2.1
  refine q_aload_n (pc := 0) dX8_ahead_0 rfl ?_
  refine q_iconst (pc := 1) dX8_ahead_1 ?_
  refine q_pI (pc := 2) 0 dX8_ahead_2 wX8_50 rfl rfl rfl ?_
  have hM0 := hM
  have hM := hM.fld (i := 0) (v := 0) (by decide)
  have hF0 : ∀ j, j < 82 → up σ 82 0 0 j = σ j := fun j hj => up_ne (by omega)
  generalize up σ 82 0 0 = τ at hM hF0 ⊢
  refine q_aload_n (pc := 5) dX8_ahead_5 rfl ?_
  refine q_V0i (pc := 6) dX8_ahead_6 vX8_184 rfl rfl (Nat.le_of_ble_eq_true rfl) (Nat.le_of_ble_eq_true rfl) (t_X8_isThere hM.1 h01) (fun r1 σ1 hc1 => ?_)
  obtain ⟨rfl, rfl⟩ := hc1
  refine q_ifneb (pc := 9) (tgt := 15) dX8_ahead_9 (by decide) (fun h9 => ?_) (fun h9 => ?_)
  · refine q_iload_n (pc := 15) dX8_ahead_15 rfl ?_
    refine q_S1i (pc := 16) dX8_ahead_16 vX8_205 (Nat.le_of_ble_eq_true rfl) (Nat.le_of_ble_eq_true rfl) (t_X8_isFoot (by omega)) (fun r2 σ2 hc2 => ?_)
    obtain ⟨rfl, rfl⟩ := hc2
    refine q_ifeqb (pc := 19) (tgt := 34) dX8_ahead_19 (by decide) (fun h19 => ?_) (fun h19 => ?_)
    · refine q_ldc (pc := 34) (n := -1000001) kX8_70 dX8_ahead_34 ?_
      refine q_ri (pc := 36) dX8_ahead_36 rfl ?_
      refine pM.q0 hF0 hM ?_
      repeat' split
      all_goals first | rfl | omega | contradiction | (simp_all; done)
    · refine q_iload_n (pc := 22) dX8_ahead_22 rfl ?_
      refine q_i2l (pc := 23) dX8_ahead_23 (by omega) ?_
      refine q_lconst0 (pc := 24) dX8_ahead_24 ?_
      refine q_ldc2 (pc := 25) (n := 60) kX8_214 dX8_ahead_25 ?_
      refine q_S3i (pc := 28) dX8_ahead_28 vX8_60 (Nat.le_of_ble_eq_true rfl) (Nat.le_of_ble_eq_true rfl) (t_X8_in (by omega) (by omega) (by omega)) (fun r3 σ3 hc3 => ?_)
      obtain ⟨rfl, rfl⟩ := hc3
      refine q_ifneb (pc := 31) (tgt := 37) dX8_ahead_31 (by decide) (fun h31 => ?_) (fun h31 => ?_)
      · refine q_aload_n (pc := 37) dX8_ahead_37 rfl ?_
        refine q_V0v (pc := 38) dX8_ahead_38 vX8_216 rfl rfl (Nat.le_of_ble_eq_true rfl) (Nat.le_of_ble_eq_true rfl) (t_X8_layThen hM.1) (fun σ4 hc4 => ?_)
        obtain ⟨hFt, hT⟩ := hc4
        refine q_aload_n (pc := 41) dX8_ahead_41 rfl ?_
        refine q_getR (pc := 42) dX8_ahead_42 fX8_25 rfl rfl ?_
        refine q_iload_n (pc := 45) dX8_ahead_45 rfl ?_
        refine q_S2v (pc := 46) dX8_ahead_46 vX8_219 (Nat.le_of_ble_eq_true rfl) (Nat.le_of_ble_eq_true rfl) (t_X8_hoursOf sh88 hT (hR.law (by omega)).2.2.1 (by omega) hO (by omega)) (fun σ5 hc5 => ?_)
        obtain ⟨hF6, hT6⟩ := hc5
        refine q_aload_n (pc := 49) dX8_ahead_49 rfl ?_
        refine q_getR (pc := 50) dX8_ahead_50 fX8_25 rfl rfl ?_
        refine q_bipush (pc := 53) dX8_ahead_53 (by decide +kernel) ?_
        refine q_iload_n (pc := 55) dX8_ahead_55 rfl ?_
        refine q_iadd (pc := 56) dX8_ahead_56 ?_
        refine q_iald (pc := 57) dX8_ahead_57 rfl (by omega) ?_
        refine q_ri (pc := 58) dX8_ahead_58 rfl ?_
        refine pM.q hF0 hM (hFt.tt hF6) (scr_im (by decide)) ?_
        rw [if_pos (by omega), if_pos (by omega)]
        exact (hT6 (7 + i) (by omega) (by omega)).symm
      · refine q_ldc (pc := 34) (n := -1000001) kX8_70 dX8_ahead_34 ?_
        refine q_ri (pc := 36) dX8_ahead_36 rfl ?_
        refine pM.q0 hF0 hM ?_
        repeat' split
        all_goals first | rfl | omega | contradiction | (simp_all; done)
  · refine q_ldc (pc := 12) (n := -1000002) kX8_187 dX8_ahead_12 ?_
    refine q_ri (pc := 14) dX8_ahead_14 rfl ?_
    refine pM.q0 hF0 hM ?_
    repeat' split
    all_goals first | rfl | omega | contradiction | (simp_all; done)
theorem m_leanAhead {n w : Int} (hM : MR σ A) (hV : AV A) (hn : -2147483648 ≤ n ∧ n ≤ 2147483647) (hw : -2147483648 ≤ w ∧ w ≤ 2147483647) : qE G mX8_leanAhead (d + 3) 0 [(0, vr 82), (1, vi n), (2, vi w)] [] σ (ri (pM σ (s_leanAhead A n w))) := by
  have hR := hV.1
  have h01 := hR.f0
  have hO := hR.1
  have h4 := hR.2.1
  refine q_aload_n (pc := 0) dX8_leanAhead_0 rfl ?_
  refine q_iconst (pc := 1) dX8_leanAhead_1 ?_
  refine q_pI (pc := 2) 0 dX8_leanAhead_2 wX8_50 rfl rfl rfl ?_
  have hM0 := hM
  have hM := hM.fld (i := 0) (v := 0) (by decide)
  have hF0 : ∀ j, j < 82 → up σ 82 0 0 j = σ j := fun j hj => up_ne (by omega)
  generalize up σ 82 0 0 = τ at hM hF0 ⊢
  refine q_aload_n (pc := 5) dX8_leanAhead_5 rfl ?_
  refine q_V0i (pc := 6) dX8_leanAhead_6 vX8_184 rfl rfl (Nat.le_of_ble_eq_true rfl) (Nat.le_of_ble_eq_true rfl) (t_X8_isThere hM.1 h01) (fun r1 σ1 hc1 => ?_)
  obtain ⟨rfl, rfl⟩ := hc1
  refine q_ifneb (pc := 9) (tgt := 15) dX8_leanAhead_9 (by decide) (fun h9 => ?_) (fun h9 => ?_)
  · refine q_iload_n (pc := 15) dX8_leanAhead_15 rfl ?_
    refine q_i2l (pc := 16) dX8_leanAhead_16 (by omega) ?_
    refine q_lconst0 (pc := 17) dX8_leanAhead_17 ?_
    refine q_ldc2 (pc := 18) (n := 60) kX8_214 dX8_leanAhead_18 ?_
    refine q_S3i (pc := 21) dX8_leanAhead_21 vX8_60 (Nat.le_of_ble_eq_true rfl) (Nat.le_of_ble_eq_true rfl) (t_X8_in (by omega) (by omega) (by omega)) (fun r2 σ2 hc2 => ?_)
    obtain ⟨rfl, rfl⟩ := hc2
    refine q_ifeqb (pc := 24) (tgt := 37) dX8_leanAhead_24 (by decide) (fun h24 => ?_) (fun h24 => ?_)
    · refine q_ldc (pc := 37) (n := -1000001) kX8_70 dX8_leanAhead_37 ?_
      refine q_ri (pc := 39) dX8_leanAhead_39 rfl ?_
      refine pM.q0 hF0 hM ?_
      repeat' split
      all_goals first | rfl | omega | contradiction | (simp_all; done)
    · refine q_iload_n (pc := 27) dX8_leanAhead_27 rfl ?_
      refine q_i2l (pc := 28) dX8_leanAhead_28 (by omega) ?_
      refine q_lconst0 (pc := 29) dX8_leanAhead_29 ?_
      refine q_lconst1 (pc := 30) dX8_leanAhead_30 ?_
      refine q_S3i (pc := 31) dX8_leanAhead_31 vX8_60 (Nat.le_of_ble_eq_true rfl) (Nat.le_of_ble_eq_true rfl) (t_X8_in (by omega) (by omega) (by omega)) (fun r3 σ3 hc3 => ?_)
      obtain ⟨rfl, rfl⟩ := hc3
      refine q_ifneb (pc := 34) (tgt := 40) dX8_leanAhead_34 (by decide) (fun h34 => ?_) (fun h34 => ?_)
      · refine q_aload_n (pc := 40) dX8_leanAhead_40 rfl ?_
        refine q_V0v (pc := 41) dX8_leanAhead_41 vX8_216 rfl rfl (Nat.le_of_ble_eq_true rfl) (Nat.le_of_ble_eq_true rfl) (t_X8_layThen hM.1) (fun σ4 hc4 => ?_)
        obtain ⟨hFt, hT⟩ := hc4
        refine q_aload_n (pc := 44) dX8_leanAhead_44 rfl ?_
        refine q_getR (pc := 45) dX8_leanAhead_45 fX8_25 rfl rfl ?_
        refine q_iload_n (pc := 48) dX8_leanAhead_48 rfl ?_
        refine q_S2v (pc := 49) dX8_leanAhead_49 vX8_219 (Nat.le_of_ble_eq_true rfl) (Nat.le_of_ble_eq_true rfl) (t_X8_hoursOf sh88 hT (hR.law (by omega)).2.2.1 (by omega) hO (by omega)) (fun σ5 hc5 => ?_)
        obtain ⟨hF6, hT6⟩ := hc5
        refine q_sipush (pc := 52) dX8_leanAhead_52 (by decide +kernel) ?_
        refine q_iload_n (pc := 55) dX8_leanAhead_55 rfl ?_
        refine q_ifne (pc := 56) (tgt := 69) dX8_leanAhead_56 (by decide) (by omega) (fun h56 => ?_) (fun h56 => ?_)
        · refine q_aload_n (pc := 69) dX8_leanAhead_69 rfl ?_
          refine q_getR (pc := 70) dX8_leanAhead_70 fX8_25 rfl rfl ?_
          refine q_S1i (pc := 73) dX8_leanAhead_73 vX8_165 (Nat.le_of_ble_eq_true rfl) (Nat.le_of_ble_eq_true rfl) (t_X8_alongOf sh88 hT6 (mHours_ok hO _)) (fun r6 σ6 hc6 => ?_)
          obtain ⟨rfl, rfl⟩ := hc6
          refine q_iadd (pc := 76) dX8_leanAhead_76 ?_
          refine q_ri (pc := 77) dX8_leanAhead_77 rfl ?_
          refine pM.q hF0 hM (hFt.tt hF6) (scr_im (by decide)) ?_
          rw [if_pos (by omega), if_pos (by omega)]
          first
          | (rw [if_pos (by omega)]; omega)
          | (rw [if_neg (by omega)]; omega)
        · refine q_aload_n (pc := 59) dX8_leanAhead_59 rfl ?_
          refine q_getR (pc := 60) dX8_leanAhead_60 fX8_25 rfl rfl ?_
          refine q_S1i (pc := 63) dX8_leanAhead_63 vX8_159 (Nat.le_of_ble_eq_true rfl) (Nat.le_of_ble_eq_true rfl) (t_X8_sideOf sh88 hT6) (fun r7 σ7 hc7 => ?_)
          obtain ⟨rfl, rfl⟩ := hc7
          refine q_goto (pc := 66) (tgt := 76) dX8_leanAhead_66 (by decide) ?_
          refine q_iadd (pc := 76) dX8_leanAhead_76 ?_
          refine q_ri (pc := 77) dX8_leanAhead_77 rfl ?_
          refine pM.q hF0 hM (hFt.tt hF6) (scr_im (by decide)) ?_
          rw [if_pos (by omega), if_pos (by omega)]
          first
          | (rw [if_pos (by omega)]; omega)
          | (rw [if_neg (by omega)]; omega)
      · refine q_ldc (pc := 37) (n := -1000001) kX8_70 dX8_leanAhead_37 ?_
        refine q_ri (pc := 39) dX8_leanAhead_39 rfl ?_
        refine pM.q0 hF0 hM ?_
        repeat' split
        all_goals first | rfl | omega | contradiction | (simp_all; done)
  · refine q_ldc (pc := 12) (n := -1000002) kX8_187 dX8_leanAhead_12 ?_
    refine q_ri (pc := 14) dX8_leanAhead_14 rfl ?_
    refine pM.q0 hF0 hM ?_
    repeat' split
    all_goals first | rfl | omega | contradiction | (simp_all; done)
theorem m_firstBy_l {w : Int} (h1 : f 0 = 1) (hR : Row f) (hw : w = 0 ∨ w = 1) : ∀ (m k : Nat) (σ' : qM), m + k = 61 → Fr σ σ' [88] → RwR σ' 88 (mHours k f) → qE G mX8_firstBy (d + 3) 6 [(2, vi k), (0, vr 82), (1, vi w)] [] σ' (ri fun r σ1 => mUntil f w m k = r ∧ Fr σ σ1 [88]) := by
  intro m
  induction m with
  | zero =>
    intro k σ' hk hF hT
    refine q_iload_n (pc := 6) dX8_firstBy_6 rfl ?_
    refine q_bipush (pc := 7) dX8_firstBy_7 (by decide +kernel) ?_
    refine q_icmpgt (pc := 9) (tgt := 38) dX8_firstBy_9 (by decide) (by omega) (by omega) (fun h9 => ?_) (fun h => absurd h (by omega))
    refine q_bipush (pc := 38) dX8_firstBy_38 (by decide +kernel) ?_
    refine q_ri (pc := 40) dX8_firstBy_40 rfl ?_
    exact ⟨by show (k : Int) = 61; omega, hF⟩
  | succ m ih =>
    intro k σ' hk hF hT
    have hO := mHours_ok hR.1 k
    have hbi := bi_in (mLevel (mHours k f))
    have hl := hR.law h1
    have e1 := mHours_o f (j := 1) (by omega) k
    have e2 := mHours_o f (j := 2) (by omega) k
    have e3 := mHours_o f (j := 3) (by omega) k
    have e4 := mHours_4 f k
    have h4 := hR.2.1
    refine q_iload_n (pc := 6) dX8_firstBy_6 rfl ?_
    refine q_bipush (pc := 7) dX8_firstBy_7 (by decide +kernel) ?_
    refine q_icmpgt (pc := 9) (tgt := 38) dX8_firstBy_9 (by decide) (by omega) (by omega) (fun h => absurd h (by omega)) (fun h9 => ?_)
    refine q_aload_n (pc := 12) dX8_firstBy_12 rfl ?_
    refine q_getR (pc := 13) dX8_firstBy_13 fX8_25 rfl rfl ?_
    refine q_S1i (pc := 16) dX8_firstBy_16 vX8_210 (Nat.le_of_ble_eq_true rfl) (Nat.le_of_ble_eq_true rfl) (t_X8_isLevel sh88 hT hO (by omega) (by omega)) (fun r1 σ1 hc1 => ?_)
    obtain ⟨rfl, rfl⟩ := hc1
    refine q_iload_n (pc := 19) dX8_firstBy_19 rfl ?_
    refine q_icmpne (pc := 20) (tgt := 25) dX8_firstBy_20 (by decide) (by omega) (by omega) (fun h20 => ?_) (fun h20 => ?_)
    · refine q_aload_n (pc := 25) dX8_firstBy_25 rfl ?_
      refine q_getR (pc := 26) dX8_firstBy_26 fX8_25 rfl rfl ?_
      refine q_S1v (pc := 29) dX8_firstBy_29 vX8_180 (Nat.le_of_ble_eq_true rfl) (Nat.le_of_ble_eq_true rfl) (t_X8_hour sh88 hT hO (by omega) (by omega)) (fun σ2 hc2 => ?_)
      obtain ⟨hF2, hT2, hO2⟩ := hc2
      refine q_iinc (pc := 32) dX8_firstBy_32 rfl (Nat.le_of_ble_eq_true rfl) ?_
      refine q_goto (pc := 35) (tgt := 6) dX8_firstBy_35 (by decide) ?_
      have q := ih (k + 1) σ2 (by omega) (hF.tt hF2) hT2
      have e : mUntil f w (m + 1) k = mUntil f w m (k + 1) := if_neg h20
      rw [e]
      exact q
    · refine q_iload_n (pc := 23) dX8_firstBy_23 rfl ?_
      refine q_ri (pc := 24) dX8_firstBy_24 rfl ?_
      refine ⟨?_, hF⟩
      exact if_pos h20
theorem t_X8_firstBy {w : Int} (hf : RwR σ 86 f) (h1 : f 0 = 1) (hR : Row f) (hw : w = 0 ∨ w = 1) : qE G mX8_firstBy (d + 3) 0 [(0, vr 82), (1, vi w)] [] σ (ri fun r σ1 => mUntil f w 61 0 = r ∧ Fr σ σ1 [88]) := by
  refine q_aload_n (pc := 0) dX8_firstBy_0 rfl ?_
  refine q_V0v (pc := 1) dX8_firstBy_1 vX8_216 rfl rfl (Nat.le_of_ble_eq_true rfl) (Nat.le_of_ble_eq_true rfl) (t_X8_layThen hf) (fun σ1 hc1 => ?_)
  obtain ⟨hFt, hT⟩ := hc1
  refine q_iconst (pc := 4) dX8_firstBy_4 ?_
  refine q_istore_n (pc := 5) dX8_firstBy_5 (Nat.le_of_ble_eq_true rfl) ?_
  exact q_mono (fun v σ' h => by obtain ⟨r, h1, h2, h3⟩ := h; exact ⟨r, h1, h2, hFt.tt h3⟩) (m_firstBy_l h1 hR hw 61 0 _ rfl Fr.rf hT)
theorem m_lasts (hM : MR σ A) (hV : AV A) : qE G mX8_lasts (d + 4) 0 [(0, vr 82)] [] σ (ri (pM σ (s_lasts A))) := by
  have hR := hV.1
  have h01 := hR.f0
  refine q_aload_n (pc := 0) dX8_lasts_0 rfl ?_
  refine q_iconst (pc := 1) dX8_lasts_1 ?_
  refine q_pI (pc := 2) 0 dX8_lasts_2 wX8_50 rfl rfl rfl ?_
  have hM0 := hM
  have hM := hM.fld (i := 0) (v := 0) (by decide)
  have hF0 : ∀ j, j < 82 → up σ 82 0 0 j = σ j := fun j hj => up_ne (by omega)
  generalize up σ 82 0 0 = τ at hM hF0 ⊢
  refine q_aload_n (pc := 5) dX8_lasts_5 rfl ?_
  refine q_V0i (pc := 6) dX8_lasts_6 vX8_184 rfl rfl (Nat.le_of_ble_eq_true rfl) (Nat.le_of_ble_eq_true rfl) (t_X8_isThere hM.1 h01) (fun r1 σ1 hc1 => ?_)
  obtain ⟨rfl, rfl⟩ := hc1
  refine q_ifeqb (pc := 9) (tgt := 20) dX8_lasts_9 (by decide) (fun h9 => ?_) (fun h9 => ?_)
  · refine q_ldc (pc := 20) (n := -1000002) kX8_187 dX8_lasts_20 ?_
    refine q_ri (pc := 22) dX8_lasts_22 rfl ?_
    first
    | (refine pM.q hF0 hM hF5 (scr_im (by decide)) ?_
       rw [if_pos (by omega)])
    | (refine pM.q0 hF0 hM ?_
       rw [if_neg (by omega)])
  · refine q_aload_n (pc := 12) dX8_lasts_12 rfl ?_
    refine q_iconst (pc := 13) dX8_lasts_13 ?_
    refine q_V1i (pc := 14) dX8_lasts_14 vX8_222 rfl rfl (Nat.le_of_ble_eq_true rfl) (Nat.le_of_ble_eq_true rfl) (t_X8_firstBy hM.1 (by omega) hR (by omega)) (fun r2 σ2 hc2 => ?_)
    obtain ⟨rfl, hF5⟩ := hc2
    refine q_goto (pc := 17) (tgt := 22) dX8_lasts_17 (by decide) ?_
    refine q_ri (pc := 22) dX8_lasts_22 rfl ?_
    first
    | (refine pM.q hF0 hM hF5 (scr_im (by decide)) ?_
       rw [if_pos (by omega)])
    | (refine pM.q0 hF0 hM ?_
       rw [if_neg (by omega)])
theorem m_first (hM : MR σ A) (hV : AV A) : qE G mX8_first (d + 4) 0 [(0, vr 82)] [] σ (ri (pM σ (s_first A))) := by
  have hR := hV.1
  have h01 := hR.f0
  have hu := mUntil_in A.1 1 61 0
  refine q_aload_n (pc := 0) dX8_first_0 rfl ?_
  refine q_iconst (pc := 1) dX8_first_1 ?_
  refine q_pI (pc := 2) 0 dX8_first_2 wX8_50 rfl rfl rfl ?_
  have hM0 := hM
  have hM := hM.fld (i := 0) (v := 0) (by decide)
  have hF0 : ∀ j, j < 82 → up σ 82 0 0 j = σ j := fun j hj => up_ne (by omega)
  generalize up σ 82 0 0 = τ at hM hF0 ⊢
  refine q_aload_n (pc := 5) dX8_first_5 rfl ?_
  refine q_V0i (pc := 6) dX8_first_6 vX8_184 rfl rfl (Nat.le_of_ble_eq_true rfl) (Nat.le_of_ble_eq_true rfl) (t_X8_isThere hM.1 h01) (fun r1 σ1 hc1 => ?_)
  obtain ⟨rfl, rfl⟩ := hc1
  refine q_ifneb (pc := 9) (tgt := 15) dX8_first_9 (by decide) (fun h9 => ?_) (fun h9 => ?_)
  · refine q_aload_n (pc := 15) dX8_first_15 rfl ?_
    refine q_iconst (pc := 16) dX8_first_16 ?_
    refine q_V1i (pc := 17) dX8_first_17 vX8_222 rfl rfl (Nat.le_of_ble_eq_true rfl) (Nat.le_of_ble_eq_true rfl) (t_X8_firstBy hM.1 (by omega) hR (by omega)) (fun r2 σ2 hc2 => ?_)
    obtain ⟨rfl, hF5⟩ := hc2
    refine q_istore_n (pc := 20) dX8_first_20 (Nat.le_of_ble_eq_true rfl) ?_
    refine q_iload_n (pc := 21) dX8_first_21 rfl ?_
    refine q_bipush (pc := 22) dX8_first_22 (by decide +kernel) ?_
    refine q_icmple (pc := 24) (tgt := 32) dX8_first_24 (by decide) (by omega) (by omega) (fun h24 => ?_) (fun h24 => ?_)
    · refine q_iload_n (pc := 32) dX8_first_32 rfl ?_
      refine q_ri (pc := 33) dX8_first_33 rfl ?_
      refine pM.q hF0 hM hF5 (scr_im (by decide)) ?_
      rw [if_pos (by omega)]
      first | exact if_pos (by omega) | exact if_neg (by omega)
    · refine q_ldc (pc := 27) (n := -1000000) kX8_93 dX8_first_27 ?_
      refine q_goto (pc := 29) (tgt := 33) dX8_first_29 (by decide) ?_
      refine q_ri (pc := 33) dX8_first_33 rfl ?_
      refine pM.q hF0 hM hF5 (scr_im (by decide)) ?_
      rw [if_pos (by omega)]
      first | exact if_pos (by omega) | exact if_neg (by omega)
  · refine q_ldc (pc := 12) (n := -1000002) kX8_187 dX8_first_12 ?_
    refine q_ri (pc := 14) dX8_first_14 rfl ?_
    refine pM.q0 hF0 hM ?_
    repeat' split
    all_goals first | rfl | omega | contradiction | (simp_all; done)
theorem mTry_do (f : Int → Int) (i : Int) : mAwry (mDo f i) = mTry f i := by
  unfold mTry mAwry mSide mAlong mMid mDo u1
  simp
theorem t_X8_awryBy {i : Int} (hf : RwR σ 86 f) (hR : Row f) (hi : 0 ≤ i ∧ i < f 5) : qE G mX8_awryBy (d + 4) 0 [(0, vr 82), (1, vi i)] [] σ (ri fun r σ1 => mTry f i = r ∧ Fr σ σ1 [88]) := by
  refine q_aload_n (pc := 0) dX8_awryBy_0 rfl ?_
  refine q_V0v (pc := 1) dX8_awryBy_1 vX8_216 rfl rfl (Nat.le_of_ble_eq_true rfl) (Nat.le_of_ble_eq_true rfl) (t_X8_layThen hf) (fun σ1 hc1 => ?_)
  obtain ⟨hFt, hT⟩ := hc1
  refine q_aload_n (pc := 4) dX8_awryBy_4 rfl ?_
  refine q_getR (pc := 5) dX8_awryBy_5 fX8_25 rfl rfl ?_
  refine q_iload_n (pc := 8) dX8_awryBy_8 rfl ?_
  refine q_S2v (pc := 9) dX8_awryBy_9 vX8_202 (Nat.le_of_ble_eq_true rfl) (Nat.le_of_ble_eq_true rfl) (t_X8_does sh88 hT hR hi) (fun σ2 hc2 => ?_)
  obtain ⟨hF2, hT2, hO2⟩ := hc2
  refine q_aload_n (pc := 12) dX8_awryBy_12 rfl ?_
  refine q_getR (pc := 13) dX8_awryBy_13 fX8_25 rfl rfl ?_
  refine q_S1i (pc := 16) dX8_awryBy_16 vX8_193 (Nat.le_of_ble_eq_true rfl) (Nat.le_of_ble_eq_true rfl) (t_X8_awryOf sh88 hT2 hO2) (fun r3 σ3 hc3 => ?_)
  obtain ⟨rfl, rfl⟩ := hc3
  refine q_ri (pc := 19) dX8_awryBy_19 rfl ?_
  exact ⟨(mTry_do f i).symm, hFt.tt hF2⟩
theorem m_attempt {i : Int} (hM : MR σ A) (hV : AV A) (hi : -2147483648 ≤ i ∧ i ≤ 2147483647) : qE G mX8_attempt (d + 5) 0 [(0, vr 82), (1, vi i)] [] σ (ri (pM σ (s_attempt A i))) := by
  have hR := hV.1
  have h5 := hR.de
  refine q_aload_n (pc := 0) dX8_attempt_0 rfl ?_
  refine q_iconst (pc := 1) dX8_attempt_1 ?_
  refine q_pI (pc := 2) 0 dX8_attempt_2 wX8_50 rfl rfl rfl ?_
  have hM0 := hM
  have hM := hM.fld (i := 0) (v := 0) (by decide)
  have hF0 : ∀ j, j < 82 → up σ 82 0 0 j = σ j := fun j hj => up_ne (by omega)
  generalize up σ 82 0 0 = τ at hM hF0 ⊢
  refine q_aload_n (pc := 5) dX8_attempt_5 rfl ?_
  refine q_iload_n (pc := 6) dX8_attempt_6 rfl ?_
  refine q_V1i (pc := 7) dX8_attempt_7 vX8_196 rfl rfl (Nat.le_of_ble_eq_true rfl) (Nat.le_of_ble_eq_true rfl) (t_X8_isDeed hM.1 h5 (by omega)) (fun r1 σ1 hc1 => ?_)
  obtain ⟨rfl, rfl⟩ := hc1
  refine q_ifneb (pc := 10) (tgt := 16) dX8_attempt_10 (by decide) (fun h10 => ?_) (fun h10 => ?_)
  · refine q_aload_n (pc := 16) dX8_attempt_16 rfl ?_
    refine q_iload_n (pc := 17) dX8_attempt_17 rfl ?_
    refine q_V1i (pc := 18) dX8_attempt_18 vX8_199 rfl rfl (Nat.le_of_ble_eq_true rfl) (Nat.le_of_ble_eq_true rfl) (t_X8_isDone hM.1) (fun r2 σ2 hc2 => ?_)
    obtain ⟨rfl, rfl⟩ := hc2
    refine q_ifeqb (pc := 21) (tgt := 29) dX8_attempt_21 (by decide) (fun h21 => ?_) (fun h21 => ?_)
    · refine q_aload_n (pc := 29) dX8_attempt_29 rfl ?_
      refine q_iload_n (pc := 30) dX8_attempt_30 rfl ?_
      refine q_V1i (pc := 31) dX8_attempt_31 vX8_226 rfl rfl (Nat.le_of_ble_eq_true rfl) (Nat.le_of_ble_eq_true rfl) (t_X8_awryBy hM.1 hR (by omega)) (fun r3 σ3 hc3 => ?_)
      obtain ⟨rfl, hF5⟩ := hc3
      refine q_ri (pc := 34) dX8_attempt_34 rfl ?_
      first
      | (refine pM.q hF0 hM hF5 (scr_im (by decide)) ?_
         rw [if_pos (by omega), if_neg (by assumption)])
      | (refine pM.q0 hF0 hM ?_
         rw [if_pos (by omega), if_pos (by assumption)])
    · refine q_ldc (pc := 24) (n := -1000002) kX8_187 dX8_attempt_24 ?_
      refine q_goto (pc := 26) (tgt := 34) dX8_attempt_26 (by decide) ?_
      refine q_ri (pc := 34) dX8_attempt_34 rfl ?_
      first
      | (refine pM.q hF0 hM hF5 (scr_im (by decide)) ?_
         rw [if_pos (by omega), if_neg (by assumption)])
      | (refine pM.q0 hF0 hM ?_
         rw [if_pos (by omega), if_pos (by assumption)])
  · refine q_ldc (pc := 13) (n := -1000001) kX8_70 dX8_attempt_13 ?_
    refine q_ri (pc := 15) dX8_attempt_15 rfl ?_
    refine pM.q0 hF0 hM ?_
    repeat' split
    all_goals first | rfl | omega | contradiction | (simp_all; done)
theorem m_best_l {w : Int} (hM0 : MR σ A) (hV : AV A) (hw : 0 ≤ w ∧ w ≤ 1) (h1 : A.1 0 = 1) {σ0 : qM} (hF0 : ∀ j, j < 82 → σ j = σ0 j) : ∀ (m k : Nat) (σ' : qM), (m : Int) + k = A.1 5 → Fr σ σ' [88] → qE G mX8_best (d + 5) 37 [(4, vi k), (3, vi (mBest A.1 k).2), (2, vi (mBest A.1 k).1), (0, vr 82), (1, vi w)] [] σ' (ri (pM σ0 (s_best A w))) := by
  intro m
  induction m with
  | zero =>
    intro k σ' hk hF
    have hM := hM0.fr hF (scr_im (by decide))
    have hR := hV.1
    have h5 := hR.de
    have e5 := hM.1 5 (by omega) (by omega)
    have hk2 : (A.1 5).toNat = k := by omega
    refine q_iload (pc := 37) dX8_best_37 rfl ?_
    refine q_aload_n (pc := 39) dX8_best_39 rfl ?_
    refine q_getR (pc := 40) dX8_best_40 fX8_19 rfl rfl ?_
    refine q_iconst (pc := 43) dX8_best_43 ?_
    refine q_iald (pc := 44) dX8_best_44 rfl (by omega) ?_
    refine q_icmpge (pc := 45) (tgt := 126) dX8_best_45 (by decide) (by omega) (by omega) (fun h45 => ?_) (fun h => absurd h (by omega))
    refine q_iload_n (pc := 126) dX8_best_126 rfl ?_
    refine q_ifne (pc := 127) (tgt := 134) dX8_best_127 (by decide) (by omega) (fun h127 => ?_) (fun h127 => ?_)
    · refine q_iload_n (pc := 134) dX8_best_134 rfl ?_
      refine q_ri (pc := 135) dX8_best_135 rfl ?_
      refine pM.q hF0 hM0 hF (scr_im (by decide)) ?_
      rw [if_pos h1, if_pos (by omega), hk2]
      first | exact if_pos (by omega) | exact if_neg (by omega)
    · refine q_iload_n (pc := 130) dX8_best_130 rfl ?_
      refine q_goto (pc := 131) (tgt := 135) dX8_best_131 (by decide) ?_
      refine q_ri (pc := 135) dX8_best_135 rfl ?_
      refine pM.q hF0 hM0 hF (scr_im (by decide)) ?_
      rw [if_pos h1, if_pos (by omega), hk2]
      first | exact if_pos (by omega) | exact if_neg (by omega)
  | succ m ih =>
    intro k σ' hk hF
    have hM := hM0.fr hF (scr_im (by decide))
    have hR := hV.1
    have h5 := hR.de
    have e5 := hM.1 5 (by omega) (by omega)
    have hb := mBest_in hR k (by omega)
    have hb2 := mBest_2 (f := A.1) k
    have ht := mTry_in hR (i := k) (by omega) (by omega)
    have hb3 : -1000000 ≤ (mBest A.1 k).2 ∧ (mBest A.1 k).2 ≤ 198 := by
      rcases hb with q | q
      · rw [hb2 q]; omega
      · omega
    refine q_iload (pc := 37) dX8_best_37 rfl ?_
    refine q_aload_n (pc := 39) dX8_best_39 rfl ?_
    refine q_getR (pc := 40) dX8_best_40 fX8_19 rfl rfl ?_
    refine q_iconst (pc := 43) dX8_best_43 ?_
    refine q_iald (pc := 44) dX8_best_44 rfl (by omega) ?_
    refine q_icmpge (pc := 45) (tgt := 126) dX8_best_45 (by decide) (by omega) (by omega) (fun h => absurd h (by omega)) (fun h45 => ?_)
    refine q_aload_n (pc := 48) dX8_best_48 rfl ?_
    refine q_iload (pc := 49) dX8_best_49 rfl ?_
    refine q_V1i (pc := 51) dX8_best_51 vX8_199 rfl rfl (Nat.le_of_ble_eq_true rfl) (Nat.le_of_ble_eq_true rfl) (t_X8_isDone hM.1) (fun r1 σ1 hc1 => ?_)
    obtain ⟨rfl, rfl⟩ := hc1
    refine q_ifeqb (pc := 54) (tgt := 62) dX8_best_54 (by decide) (fun h54 => ?_) (fun h54 => ?_)
    · refine q_aload_n (pc := 62) dX8_best_62 rfl ?_
      refine q_iload (pc := 63) dX8_best_63 rfl ?_
      refine q_V1i (pc := 65) dX8_best_65 vX8_226 rfl rfl (Nat.le_of_ble_eq_true rfl) (Nat.le_of_ble_eq_true rfl) (t_X8_awryBy hM.1 hR (by omega)) (fun r2 σ2 hc2 => ?_)
      obtain ⟨rfl, hF3⟩ := hc2
      refine q_istore (pc := 68) dX8_best_68 (Nat.le_of_ble_eq_true rfl) ?_
      refine q_iload (pc := 70) dX8_best_70 rfl ?_
      refine q_ldc (pc := 72) (n := -1000000) kX8_93 dX8_best_72 ?_
      refine q_icmpeq (pc := 74) (tgt := 93) dX8_best_74 (by decide) (by omega) (by omega) (fun h74 => ?_) (fun h74 => ?_)
      · refine q_iconst (pc := 93) dX8_best_93 ?_
        refine q_istore (pc := 94) dX8_best_94 (Nat.le_of_ble_eq_true rfl) ?_
        refine q_iload (pc := 96) dX8_best_96 rfl ?_
        refine q_ifeq (pc := 98) (tgt := 106) dX8_best_98 (by decide) (by omega) (fun h98 => ?_) (fun h => absurd h (by omega))
        refine q_iload_n (pc := 106) dX8_best_106 rfl ?_
        refine q_istore_n (pc := 107) dX8_best_107 (Nat.le_of_ble_eq_true rfl) ?_
        refine q_iload (pc := 108) dX8_best_108 rfl ?_
        refine q_ifeq (pc := 110) (tgt := 118) dX8_best_110 (by decide) (by omega) (fun h110 => ?_) (fun h => absurd h (by omega))
        refine q_iload_n (pc := 118) dX8_best_118 rfl ?_
        refine q_istore_n (pc := 119) dX8_best_119 (Nat.le_of_ble_eq_true rfl) ?_
        refine q_iinc (pc := 120) dX8_best_120 rfl (Nat.le_of_ble_eq_true rfl) ?_
        refine q_goto (pc := 123) (tgt := 37) dX8_best_123 (by decide) ?_
        first
        | (exfalso; omega)
        | (have e : mBest A.1 (k + 1) = mBest A.1 k := by
             show (if mDone A.1 k then mBest A.1 k else if (mBest A.1 k).1 = -1000000 ∨ mTry A.1 k < (mBest A.1 k).2 then ((k : Int), mTry A.1 k) else mBest A.1 k) = mBest A.1 k
             rw [if_pos (by assumption)]
           have q := ih (k + 1) σ' (by omega) hF
           rw [e] at q
           exact q_locs _ [0, 1, 2, 5, 6] rfl q)
        | (have e : mBest A.1 (k + 1) = mBest A.1 k := by
             show (if mDone A.1 k then mBest A.1 k else if (mBest A.1 k).1 = -1000000 ∨ mTry A.1 k < (mBest A.1 k).2 then ((k : Int), mTry A.1 k) else mBest A.1 k) = mBest A.1 k
             rw [if_neg (by assumption), if_neg (fun q => by rcases q with q | q <;> omega)]
           have q := ih (k + 1) σ2 (by omega) (hF.tt hF3)
           rw [e] at q
           exact q_locs _ [0, 1, 2, 5, 6] rfl q)
        | (have e : mBest A.1 (k + 1) = ((k : Int), mTry A.1 k) := by
             show (if mDone A.1 k then mBest A.1 k else if (mBest A.1 k).1 = -1000000 ∨ mTry A.1 k < (mBest A.1 k).2 then ((k : Int), mTry A.1 k) else mBest A.1 k) = _
             rw [if_neg (by assumption), if_pos (by first | exact Or.inl (by omega) | exact Or.inr (by omega))]
           have q := ih (k + 1) σ2 (by omega) (hF.tt hF3)
           rw [e] at q
           exact q_locs _ [0, 1, 2, 5, 6] rfl q)
      · refine q_iload_n (pc := 77) dX8_best_77 rfl ?_
        refine q_ldc (pc := 78) (n := -1000000) kX8_93 dX8_best_78 ?_
        refine q_icmpeq (pc := 80) (tgt := 89) dX8_best_80 (by decide) (by omega) (by omega) (fun h80 => ?_) (fun h80 => ?_)
        · refine q_iconst (pc := 89) dX8_best_89 ?_
          refine q_goto (pc := 90) (tgt := 94) dX8_best_90 (by decide) ?_
          refine q_istore (pc := 94) dX8_best_94 (Nat.le_of_ble_eq_true rfl) ?_
          refine q_iload (pc := 96) dX8_best_96 rfl ?_
          refine q_ifeq (pc := 98) (tgt := 106) dX8_best_98 (by decide) (by omega) (fun h => absurd h (by omega)) (fun h98 => ?_)
          refine q_iload (pc := 101) dX8_best_101 rfl ?_
          refine q_goto (pc := 103) (tgt := 107) dX8_best_103 (by decide) ?_
          refine q_istore_n (pc := 107) dX8_best_107 (Nat.le_of_ble_eq_true rfl) ?_
          refine q_iload (pc := 108) dX8_best_108 rfl ?_
          refine q_ifeq (pc := 110) (tgt := 118) dX8_best_110 (by decide) (by omega) (fun h => absurd h (by omega)) (fun h110 => ?_)
          refine q_iload (pc := 113) dX8_best_113 rfl ?_
          refine q_goto (pc := 115) (tgt := 119) dX8_best_115 (by decide) ?_
          refine q_istore_n (pc := 119) dX8_best_119 (Nat.le_of_ble_eq_true rfl) ?_
          refine q_iinc (pc := 120) dX8_best_120 rfl (Nat.le_of_ble_eq_true rfl) ?_
          refine q_goto (pc := 123) (tgt := 37) dX8_best_123 (by decide) ?_
          first
          | (exfalso; omega)
          | (have e : mBest A.1 (k + 1) = mBest A.1 k := by
               show (if mDone A.1 k then mBest A.1 k else if (mBest A.1 k).1 = -1000000 ∨ mTry A.1 k < (mBest A.1 k).2 then ((k : Int), mTry A.1 k) else mBest A.1 k) = mBest A.1 k
               rw [if_pos (by assumption)]
             have q := ih (k + 1) σ' (by omega) hF
             rw [e] at q
             exact q_locs _ [0, 1, 2, 5, 6] rfl q)
          | (have e : mBest A.1 (k + 1) = mBest A.1 k := by
               show (if mDone A.1 k then mBest A.1 k else if (mBest A.1 k).1 = -1000000 ∨ mTry A.1 k < (mBest A.1 k).2 then ((k : Int), mTry A.1 k) else mBest A.1 k) = mBest A.1 k
               rw [if_neg (by assumption), if_neg (fun q => by rcases q with q | q <;> omega)]
             have q := ih (k + 1) σ2 (by omega) (hF.tt hF3)
             rw [e] at q
             exact q_locs _ [0, 1, 2, 5, 6] rfl q)
          | (have e : mBest A.1 (k + 1) = ((k : Int), mTry A.1 k) := by
               show (if mDone A.1 k then mBest A.1 k else if (mBest A.1 k).1 = -1000000 ∨ mTry A.1 k < (mBest A.1 k).2 then ((k : Int), mTry A.1 k) else mBest A.1 k) = _
               rw [if_neg (by assumption), if_pos (by first | exact Or.inl (by omega) | exact Or.inr (by omega))]
             have q := ih (k + 1) σ2 (by omega) (hF.tt hF3)
             rw [e] at q
             exact q_locs _ [0, 1, 2, 5, 6] rfl q)
        · refine q_iload (pc := 83) dX8_best_83 rfl ?_
          refine q_iload_n (pc := 85) dX8_best_85 rfl ?_
          refine q_icmpge (pc := 86) (tgt := 93) dX8_best_86 (by decide) (by omega) (by omega) (fun h86 => ?_) (fun h86 => ?_)
          · refine q_iconst (pc := 93) dX8_best_93 ?_
            refine q_istore (pc := 94) dX8_best_94 (Nat.le_of_ble_eq_true rfl) ?_
            refine q_iload (pc := 96) dX8_best_96 rfl ?_
            refine q_ifeq (pc := 98) (tgt := 106) dX8_best_98 (by decide) (by omega) (fun h98 => ?_) (fun h => absurd h (by omega))
            refine q_iload_n (pc := 106) dX8_best_106 rfl ?_
            refine q_istore_n (pc := 107) dX8_best_107 (Nat.le_of_ble_eq_true rfl) ?_
            refine q_iload (pc := 108) dX8_best_108 rfl ?_
            refine q_ifeq (pc := 110) (tgt := 118) dX8_best_110 (by decide) (by omega) (fun h110 => ?_) (fun h => absurd h (by omega))
            refine q_iload_n (pc := 118) dX8_best_118 rfl ?_
            refine q_istore_n (pc := 119) dX8_best_119 (Nat.le_of_ble_eq_true rfl) ?_
            refine q_iinc (pc := 120) dX8_best_120 rfl (Nat.le_of_ble_eq_true rfl) ?_
            refine q_goto (pc := 123) (tgt := 37) dX8_best_123 (by decide) ?_
            first
            | (exfalso; omega)
            | (have e : mBest A.1 (k + 1) = mBest A.1 k := by
                 show (if mDone A.1 k then mBest A.1 k else if (mBest A.1 k).1 = -1000000 ∨ mTry A.1 k < (mBest A.1 k).2 then ((k : Int), mTry A.1 k) else mBest A.1 k) = mBest A.1 k
                 rw [if_pos (by assumption)]
               have q := ih (k + 1) σ' (by omega) hF
               rw [e] at q
               exact q_locs _ [0, 1, 2, 5, 6] rfl q)
            | (have e : mBest A.1 (k + 1) = mBest A.1 k := by
                 show (if mDone A.1 k then mBest A.1 k else if (mBest A.1 k).1 = -1000000 ∨ mTry A.1 k < (mBest A.1 k).2 then ((k : Int), mTry A.1 k) else mBest A.1 k) = mBest A.1 k
                 rw [if_neg (by assumption), if_neg (fun q => by rcases q with q | q <;> omega)]
               have q := ih (k + 1) σ2 (by omega) (hF.tt hF3)
               rw [e] at q
               exact q_locs _ [0, 1, 2, 5, 6] rfl q)
            | (have e : mBest A.1 (k + 1) = ((k : Int), mTry A.1 k) := by
                 show (if mDone A.1 k then mBest A.1 k else if (mBest A.1 k).1 = -1000000 ∨ mTry A.1 k < (mBest A.1 k).2 then ((k : Int), mTry A.1 k) else mBest A.1 k) = _
                 rw [if_neg (by assumption), if_pos (by first | exact Or.inl (by omega) | exact Or.inr (by omega))]
               have q := ih (k + 1) σ2 (by omega) (hF.tt hF3)
               rw [e] at q
               exact q_locs _ [0, 1, 2, 5, 6] rfl q)
          · refine q_iconst (pc := 89) dX8_best_89 ?_
            refine q_goto (pc := 90) (tgt := 94) dX8_best_90 (by decide) ?_
            refine q_istore (pc := 94) dX8_best_94 (Nat.le_of_ble_eq_true rfl) ?_
            refine q_iload (pc := 96) dX8_best_96 rfl ?_
            refine q_ifeq (pc := 98) (tgt := 106) dX8_best_98 (by decide) (by omega) (fun h => absurd h (by omega)) (fun h98 => ?_)
            refine q_iload (pc := 101) dX8_best_101 rfl ?_
            refine q_goto (pc := 103) (tgt := 107) dX8_best_103 (by decide) ?_
            refine q_istore_n (pc := 107) dX8_best_107 (Nat.le_of_ble_eq_true rfl) ?_
            refine q_iload (pc := 108) dX8_best_108 rfl ?_
            refine q_ifeq (pc := 110) (tgt := 118) dX8_best_110 (by decide) (by omega) (fun h => absurd h (by omega)) (fun h110 => ?_)
            refine q_iload (pc := 113) dX8_best_113 rfl ?_
            refine q_goto (pc := 115) (tgt := 119) dX8_best_115 (by decide) ?_
            refine q_istore_n (pc := 119) dX8_best_119 (Nat.le_of_ble_eq_true rfl) ?_
            refine q_iinc (pc := 120) dX8_best_120 rfl (Nat.le_of_ble_eq_true rfl) ?_
            refine q_goto (pc := 123) (tgt := 37) dX8_best_123 (by decide) ?_
            first
            | (exfalso; omega)
            | (have e : mBest A.1 (k + 1) = mBest A.1 k := by
                 show (if mDone A.1 k then mBest A.1 k else if (mBest A.1 k).1 = -1000000 ∨ mTry A.1 k < (mBest A.1 k).2 then ((k : Int), mTry A.1 k) else mBest A.1 k) = mBest A.1 k
                 rw [if_pos (by assumption)]
               have q := ih (k + 1) σ' (by omega) hF
               rw [e] at q
               exact q_locs _ [0, 1, 2, 5, 6] rfl q)
            | (have e : mBest A.1 (k + 1) = mBest A.1 k := by
                 show (if mDone A.1 k then mBest A.1 k else if (mBest A.1 k).1 = -1000000 ∨ mTry A.1 k < (mBest A.1 k).2 then ((k : Int), mTry A.1 k) else mBest A.1 k) = mBest A.1 k
                 rw [if_neg (by assumption), if_neg (fun q => by rcases q with q | q <;> omega)]
               have q := ih (k + 1) σ2 (by omega) (hF.tt hF3)
               rw [e] at q
               exact q_locs _ [0, 1, 2, 5, 6] rfl q)
            | (have e : mBest A.1 (k + 1) = ((k : Int), mTry A.1 k) := by
                 show (if mDone A.1 k then mBest A.1 k else if (mBest A.1 k).1 = -1000000 ∨ mTry A.1 k < (mBest A.1 k).2 then ((k : Int), mTry A.1 k) else mBest A.1 k) = _
                 rw [if_neg (by assumption), if_pos (by first | exact Or.inl (by omega) | exact Or.inr (by omega))]
               have q := ih (k + 1) σ2 (by omega) (hF.tt hF3)
               rw [e] at q
               exact q_locs _ [0, 1, 2, 5, 6] rfl q)
    · refine q_ldc (pc := 57) (n := -1000000) kX8_93 dX8_best_57 ?_
      refine q_goto (pc := 59) (tgt := 68) dX8_best_59 (by decide) ?_
      refine q_istore (pc := 68) dX8_best_68 (Nat.le_of_ble_eq_true rfl) ?_
      refine q_iload (pc := 70) dX8_best_70 rfl ?_
      refine q_ldc (pc := 72) (n := -1000000) kX8_93 dX8_best_72 ?_
      refine q_icmpeq (pc := 74) (tgt := 93) dX8_best_74 (by decide) (by omega) (by omega) (fun h74 => ?_) (fun h => absurd h (by omega))
      refine q_iconst (pc := 93) dX8_best_93 ?_
      refine q_istore (pc := 94) dX8_best_94 (Nat.le_of_ble_eq_true rfl) ?_
      refine q_iload (pc := 96) dX8_best_96 rfl ?_
      refine q_ifeq (pc := 98) (tgt := 106) dX8_best_98 (by decide) (by omega) (fun h98 => ?_) (fun h => absurd h (by omega))
      refine q_iload_n (pc := 106) dX8_best_106 rfl ?_
      refine q_istore_n (pc := 107) dX8_best_107 (Nat.le_of_ble_eq_true rfl) ?_
      refine q_iload (pc := 108) dX8_best_108 rfl ?_
      refine q_ifeq (pc := 110) (tgt := 118) dX8_best_110 (by decide) (by omega) (fun h110 => ?_) (fun h => absurd h (by omega))
      refine q_iload_n (pc := 118) dX8_best_118 rfl ?_
      refine q_istore_n (pc := 119) dX8_best_119 (Nat.le_of_ble_eq_true rfl) ?_
      refine q_iinc (pc := 120) dX8_best_120 rfl (Nat.le_of_ble_eq_true rfl) ?_
      refine q_goto (pc := 123) (tgt := 37) dX8_best_123 (by decide) ?_
      first
      | (exfalso; omega)
      | (have e : mBest A.1 (k + 1) = mBest A.1 k := by
           show (if mDone A.1 k then mBest A.1 k else if (mBest A.1 k).1 = -1000000 ∨ mTry A.1 k < (mBest A.1 k).2 then ((k : Int), mTry A.1 k) else mBest A.1 k) = mBest A.1 k
           rw [if_pos (by assumption)]
         have q := ih (k + 1) σ' (by omega) hF
         rw [e] at q
         exact q_locs _ [0, 1, 2, 5, 6] rfl q)
      | (have e : mBest A.1 (k + 1) = mBest A.1 k := by
           show (if mDone A.1 k then mBest A.1 k else if (mBest A.1 k).1 = -1000000 ∨ mTry A.1 k < (mBest A.1 k).2 then ((k : Int), mTry A.1 k) else mBest A.1 k) = mBest A.1 k
           rw [if_neg (by assumption), if_neg (fun q => by rcases q with q | q <;> omega)]
         have q := ih (k + 1) σ1 (by omega) (hF.tt hF3)
         rw [e] at q
         exact q_locs _ [0, 1, 2, 5, 6] rfl q)
      | (have e : mBest A.1 (k + 1) = ((k : Int), mTry A.1 k) := by
           show (if mDone A.1 k then mBest A.1 k else if (mBest A.1 k).1 = -1000000 ∨ mTry A.1 k < (mBest A.1 k).2 then ((k : Int), mTry A.1 k) else mBest A.1 k) = _
           rw [if_neg (by assumption), if_pos (by first | exact Or.inl (by omega) | exact Or.inr (by omega))]
         have q := ih (k + 1) σ1 (by omega) (hF.tt hF3)
         rw [e] at q
         exact q_locs _ [0, 1, 2, 5, 6] rfl q)
theorem m_best {w : Int} (hM : MR σ A) (hV : AV A) (hw : -2147483648 ≤ w ∧ w ≤ 2147483647) : qE G mX8_best (d + 5) 0 [(0, vr 82), (1, vi w)] [] σ (ri (pM σ (s_best A w))) := by
  have hR := hV.1
  have h01 := hR.f0
  have h5 := hR.de
  refine q_aload_n (pc := 0) dX8_best_0 rfl ?_
  refine q_iconst (pc := 1) dX8_best_1 ?_
  refine q_pI (pc := 2) 0 dX8_best_2 wX8_50 rfl rfl rfl ?_
  have hM0 := hM
  have hM := hM.fld (i := 0) (v := 0) (by decide)
  have hF0 : ∀ j, j < 82 → up σ 82 0 0 j = σ j := fun j hj => up_ne (by omega)
  generalize up σ 82 0 0 = τ at hM hF0 ⊢
  refine q_aload_n (pc := 5) dX8_best_5 rfl ?_
  refine q_V0i (pc := 6) dX8_best_6 vX8_184 rfl rfl (Nat.le_of_ble_eq_true rfl) (Nat.le_of_ble_eq_true rfl) (t_X8_isThere hM.1 h01) (fun r1 σ1 hc1 => ?_)
  obtain ⟨rfl, rfl⟩ := hc1
  refine q_ifneb (pc := 9) (tgt := 15) dX8_best_9 (by decide) (fun h9 => ?_) (fun h9 => ?_)
  · refine q_iload_n (pc := 15) dX8_best_15 rfl ?_
    refine q_i2l (pc := 16) dX8_best_16 (by omega) ?_
    refine q_lconst0 (pc := 17) dX8_best_17 ?_
    refine q_lconst1 (pc := 18) dX8_best_18 ?_
    refine q_S3i (pc := 19) dX8_best_19 vX8_60 (Nat.le_of_ble_eq_true rfl) (Nat.le_of_ble_eq_true rfl) (t_X8_in (by omega) (by omega) (by omega)) (fun r2 σ2 hc2 => ?_)
    obtain ⟨rfl, rfl⟩ := hc2
    refine q_ifneb (pc := 22) (tgt := 28) dX8_best_22 (by decide) (fun h22 => ?_) (fun h22 => ?_)
    · refine q_ldc (pc := 28) (n := -1000000) kX8_93 dX8_best_28 ?_
      refine q_istore_n (pc := 30) dX8_best_30 (Nat.le_of_ble_eq_true rfl) ?_
      refine q_ldc (pc := 31) (n := -1000000) kX8_93 dX8_best_31 ?_
      refine q_istore_n (pc := 33) dX8_best_33 (Nat.le_of_ble_eq_true rfl) ?_
      refine q_iconst (pc := 34) dX8_best_34 ?_
      refine q_istore (pc := 35) dX8_best_35 (Nat.le_of_ble_eq_true rfl) ?_
      exact m_best_l hM hV (by omega) (by omega) hF0 (A.1 5).toNat 0 τ (by omega) Fr.rf
    · refine q_ldc (pc := 25) (n := -1000001) kX8_70 dX8_best_25 ?_
      refine q_ri (pc := 27) dX8_best_27 rfl ?_
      refine pM.q0 hF0 hM ?_
      repeat' split
      all_goals first | rfl | omega | contradiction | (simp_all; done)
  · refine q_ldc (pc := 12) (n := -1000002) kX8_187 dX8_best_12 ?_
    refine q_ri (pc := 14) dX8_best_14 rfl ?_
    refine pM.q0 hF0 hM ?_
    repeat' split
    all_goals first | rfl | omega | contradiction | (simp_all; done)
theorem m_worst_l {n w : Int} (hM0 : MR σ A) (hV : AV A) (hn : 0 ≤ n ∧ n ≤ 60) (hw : 0 ≤ w ∧ w ≤ 1) (h1 : A.1 0 = 1) {σ0 : qM} (hF0 : ∀ j, j < 82 → σ j = σ0 j) : ∀ (m k : Nat) (σ' : qM), (m : Int) + k = n + 1 → Fr σ σ' [88] → RwR σ' 88 (mHours k A.1) → qE G mX8_worst (d + 3) 52 [(5, vi k), (4, vi (mWorst A.1 k).2), (3, vi (mWorst A.1 k).1), (0, vr 82), (1, vi n), (2, vi w)] [] σ' (ri (pM σ0 (s_worst A n w))) := by
  intro m
  induction m with
  | zero =>
    intro k σ' hk hF hT
    have hk2 : (n + 1).toNat = k := by omega
    refine q_iload (pc := 52) dX8_worst_52 rfl ?_
    refine q_iload_n (pc := 54) dX8_worst_54 rfl ?_
    refine q_icmpgt (pc := 55) (tgt := 108) dX8_worst_55 (by decide) (by omega) (by omega) (fun h55 => ?_) (fun h => absurd h (by omega))
    refine q_iload_n (pc := 108) dX8_worst_108 rfl ?_
    refine q_ifne (pc := 109) (tgt := 116) dX8_worst_109 (by decide) (by omega) (fun h109 => ?_) (fun h109 => ?_)
    · refine q_iload (pc := 116) dX8_worst_116 rfl ?_
      refine q_ri (pc := 118) dX8_worst_118 rfl ?_
      refine pM.q hF0 hM0 hF (scr_im (by decide)) ?_
      rw [if_pos h1, if_pos (by omega), hk2]
      first | exact if_pos (by omega) | exact if_neg (by omega)
    · refine q_iload_n (pc := 112) dX8_worst_112 rfl ?_
      refine q_goto (pc := 113) (tgt := 118) dX8_worst_113 (by decide) ?_
      refine q_ri (pc := 118) dX8_worst_118 rfl ?_
      refine pM.q hF0 hM0 hF (scr_im (by decide)) ?_
      rw [if_pos h1, if_pos (by omega), hk2]
      first | exact if_pos (by omega) | exact if_neg (by omega)
  | succ m ih =>
    intro k σ' hk hF hT
    have hR := hV.1
    have hO := mHours_ok hR.1 k
    have hl := hR.law h1
    have e3 := mHours_o A.1 (j := 3) (by omega) k
    have e4 := mHours_4 A.1 k
    have h4 := hR.2.1
    have ha := mAwry_in hO
    have hb : -1 ≤ (mWorst A.1 k).1 ∧ (mWorst A.1 k).1 ≤ 198 := by
      cases k with
      | zero => exact ⟨Int.le_refl _, by show (-1 : Int) ≤ 198; omega⟩
      | succ k =>
        have := mWorst_eq hR.1 k
        have := mAwry_in (mHours_ok hR.1 (mWorst A.1 (k + 1)).2.toNat)
        omega
    refine q_iload (pc := 52) dX8_worst_52 rfl ?_
    refine q_iload_n (pc := 54) dX8_worst_54 rfl ?_
    refine q_icmpgt (pc := 55) (tgt := 108) dX8_worst_55 (by decide) (by omega) (by omega) (fun h => absurd h (by omega)) (fun h55 => ?_)
    refine q_aload_n (pc := 58) dX8_worst_58 rfl ?_
    refine q_getR (pc := 59) dX8_worst_59 fX8_25 rfl rfl ?_
    refine q_S1i (pc := 62) dX8_worst_62 vX8_193 (Nat.le_of_ble_eq_true rfl) (Nat.le_of_ble_eq_true rfl) (t_X8_awryOf sh88 hT hO) (fun r1 σ1 hc1 => ?_)
    obtain ⟨rfl, rfl⟩ := hc1
    refine q_istore (pc := 65) dX8_worst_65 (Nat.le_of_ble_eq_true rfl) ?_
    refine q_iload (pc := 67) dX8_worst_67 rfl ?_
    refine q_iload_n (pc := 69) dX8_worst_69 rfl ?_
    refine q_icmple (pc := 70) (tgt := 78) dX8_worst_70 (by decide) (by omega) (by omega) (fun h70 => ?_) (fun h70 => ?_)
    · refine q_iload (pc := 78) dX8_worst_78 rfl ?_
      refine q_istore (pc := 80) dX8_worst_80 (Nat.le_of_ble_eq_true rfl) ?_
      refine q_iload (pc := 82) dX8_worst_82 rfl ?_
      refine q_iload_n (pc := 84) dX8_worst_84 rfl ?_
      refine q_icmple (pc := 85) (tgt := 93) dX8_worst_85 (by decide) (by omega) (by omega) (fun h85 => ?_) (fun h85 => ?_)
      · refine q_iload_n (pc := 93) dX8_worst_93 rfl ?_
        refine q_istore_n (pc := 94) dX8_worst_94 (Nat.le_of_ble_eq_true rfl) ?_
        refine q_aload_n (pc := 95) dX8_worst_95 rfl ?_
        refine q_getR (pc := 96) dX8_worst_96 fX8_25 rfl rfl ?_
        refine q_S1v (pc := 99) dX8_worst_99 vX8_180 (Nat.le_of_ble_eq_true rfl) (Nat.le_of_ble_eq_true rfl) (t_X8_hour sh88 hT hO (by omega) (by omega)) (fun σ2 hc2 => ?_)
        obtain ⟨hF2, hT2, hO2⟩ := hc2
        refine q_iinc (pc := 102) dX8_worst_102 rfl (Nat.le_of_ble_eq_true rfl) ?_
        refine q_goto (pc := 105) (tgt := 52) dX8_worst_105 (by decide) ?_
        have q := ih (k + 1) σ2 (by omega) (hF.tt hF2) hT2
        have e : mWorst A.1 (k + 1) = if (mWorst A.1 k).1 < mAwry (mHours k A.1) then (mAwry (mHours k A.1), (k : Int)) else mWorst A.1 k := rfl
        first
        | (exfalso; omega)
        | (rw [e, if_pos (by omega)] at q; exact q_locs _ [0, 2, 1, 4, 5, 6] rfl q)
        | (rw [e, if_neg (by omega)] at q; exact q_locs _ [0, 2, 1, 4, 5, 6] rfl q)
      · refine q_iload (pc := 88) dX8_worst_88 rfl ?_
        refine q_goto (pc := 90) (tgt := 94) dX8_worst_90 (by decide) ?_
        refine q_istore_n (pc := 94) dX8_worst_94 (Nat.le_of_ble_eq_true rfl) ?_
        refine q_aload_n (pc := 95) dX8_worst_95 rfl ?_
        refine q_getR (pc := 96) dX8_worst_96 fX8_25 rfl rfl ?_
        refine q_S1v (pc := 99) dX8_worst_99 vX8_180 (Nat.le_of_ble_eq_true rfl) (Nat.le_of_ble_eq_true rfl) (t_X8_hour sh88 hT hO (by omega) (by omega)) (fun σ3 hc3 => ?_)
        obtain ⟨hF3, hT3, hO3⟩ := hc3
        refine q_iinc (pc := 102) dX8_worst_102 rfl (Nat.le_of_ble_eq_true rfl) ?_
        refine q_goto (pc := 105) (tgt := 52) dX8_worst_105 (by decide) ?_
        have q := ih (k + 1) σ3 (by omega) (hF.tt hF3) hT3
        have e : mWorst A.1 (k + 1) = if (mWorst A.1 k).1 < mAwry (mHours k A.1) then (mAwry (mHours k A.1), (k : Int)) else mWorst A.1 k := rfl
        first
        | (exfalso; omega)
        | (rw [e, if_pos (by omega)] at q; exact q_locs _ [0, 2, 1, 4, 5, 6] rfl q)
        | (rw [e, if_neg (by omega)] at q; exact q_locs _ [0, 2, 1, 4, 5, 6] rfl q)
    · refine q_iload (pc := 73) dX8_worst_73 rfl ?_
      refine q_goto (pc := 75) (tgt := 80) dX8_worst_75 (by decide) ?_
      refine q_istore (pc := 80) dX8_worst_80 (Nat.le_of_ble_eq_true rfl) ?_
      refine q_iload (pc := 82) dX8_worst_82 rfl ?_
      refine q_iload_n (pc := 84) dX8_worst_84 rfl ?_
      refine q_icmple (pc := 85) (tgt := 93) dX8_worst_85 (by decide) (by omega) (by omega) (fun h85 => ?_) (fun h85 => ?_)
      · refine q_iload_n (pc := 93) dX8_worst_93 rfl ?_
        refine q_istore_n (pc := 94) dX8_worst_94 (Nat.le_of_ble_eq_true rfl) ?_
        refine q_aload_n (pc := 95) dX8_worst_95 rfl ?_
        refine q_getR (pc := 96) dX8_worst_96 fX8_25 rfl rfl ?_
        refine q_S1v (pc := 99) dX8_worst_99 vX8_180 (Nat.le_of_ble_eq_true rfl) (Nat.le_of_ble_eq_true rfl) (t_X8_hour sh88 hT hO (by omega) (by omega)) (fun σ4 hc4 => ?_)
        obtain ⟨hF4, hT4, hO4⟩ := hc4
        refine q_iinc (pc := 102) dX8_worst_102 rfl (Nat.le_of_ble_eq_true rfl) ?_
        refine q_goto (pc := 105) (tgt := 52) dX8_worst_105 (by decide) ?_
        have q := ih (k + 1) σ4 (by omega) (hF.tt hF4) hT4
        have e : mWorst A.1 (k + 1) = if (mWorst A.1 k).1 < mAwry (mHours k A.1) then (mAwry (mHours k A.1), (k : Int)) else mWorst A.1 k := rfl
        first
        | (exfalso; omega)
        | (rw [e, if_pos (by omega)] at q; exact q_locs _ [0, 2, 1, 4, 5, 6] rfl q)
        | (rw [e, if_neg (by omega)] at q; exact q_locs _ [0, 2, 1, 4, 5, 6] rfl q)
      · refine q_iload (pc := 88) dX8_worst_88 rfl ?_
        refine q_goto (pc := 90) (tgt := 94) dX8_worst_90 (by decide) ?_
        refine q_istore_n (pc := 94) dX8_worst_94 (Nat.le_of_ble_eq_true rfl) ?_
        refine q_aload_n (pc := 95) dX8_worst_95 rfl ?_
        refine q_getR (pc := 96) dX8_worst_96 fX8_25 rfl rfl ?_
        refine q_S1v (pc := 99) dX8_worst_99 vX8_180 (Nat.le_of_ble_eq_true rfl) (Nat.le_of_ble_eq_true rfl) (t_X8_hour sh88 hT hO (by omega) (by omega)) (fun σ5 hc5 => ?_)
        obtain ⟨hF5, hT5, hO5⟩ := hc5
        refine q_iinc (pc := 102) dX8_worst_102 rfl (Nat.le_of_ble_eq_true rfl) ?_
        refine q_goto (pc := 105) (tgt := 52) dX8_worst_105 (by decide) ?_
        have q := ih (k + 1) σ5 (by omega) (hF.tt hF5) hT5
        have e : mWorst A.1 (k + 1) = if (mWorst A.1 k).1 < mAwry (mHours k A.1) then (mAwry (mHours k A.1), (k : Int)) else mWorst A.1 k := rfl
        first
        | (exfalso; omega)
        | (rw [e, if_pos (by omega)] at q; exact q_locs _ [0, 2, 1, 4, 5, 6] rfl q)
        | (rw [e, if_neg (by omega)] at q; exact q_locs _ [0, 2, 1, 4, 5, 6] rfl q)
theorem m_worst {n w : Int} (hM : MR σ A) (hV : AV A) (hn : -2147483648 ≤ n ∧ n ≤ 2147483647) (hw : -2147483648 ≤ w ∧ w ≤ 2147483647) : qE G mX8_worst (d + 3) 0 [(0, vr 82), (1, vi n), (2, vi w)] [] σ (ri (pM σ (s_worst A n w))) := by
  have hR := hV.1
  have h01 := hR.f0
  refine q_aload_n (pc := 0) dX8_worst_0 rfl ?_
  refine q_iconst (pc := 1) dX8_worst_1 ?_
  refine q_pI (pc := 2) 0 dX8_worst_2 wX8_50 rfl rfl rfl ?_
  have hM0 := hM
  have hM := hM.fld (i := 0) (v := 0) (by decide)
  have hF0 : ∀ j, j < 82 → up σ 82 0 0 j = σ j := fun j hj => up_ne (by omega)
  generalize up σ 82 0 0 = τ at hM hF0 ⊢
  refine q_aload_n (pc := 5) dX8_worst_5 rfl ?_
  refine q_V0i (pc := 6) dX8_worst_6 vX8_184 rfl rfl (Nat.le_of_ble_eq_true rfl) (Nat.le_of_ble_eq_true rfl) (t_X8_isThere hM.1 h01) (fun r1 σ1 hc1 => ?_)
  obtain ⟨rfl, rfl⟩ := hc1
  refine q_ifneb (pc := 9) (tgt := 15) dX8_worst_9 (by decide) (fun h9 => ?_) (fun h9 => ?_)
  · refine q_iload_n (pc := 15) dX8_worst_15 rfl ?_
    refine q_i2l (pc := 16) dX8_worst_16 (by omega) ?_
    refine q_lconst0 (pc := 17) dX8_worst_17 ?_
    refine q_ldc2 (pc := 18) (n := 60) kX8_214 dX8_worst_18 ?_
    refine q_S3i (pc := 21) dX8_worst_21 vX8_60 (Nat.le_of_ble_eq_true rfl) (Nat.le_of_ble_eq_true rfl) (t_X8_in (by omega) (by omega) (by omega)) (fun r2 σ2 hc2 => ?_)
    obtain ⟨rfl, rfl⟩ := hc2
    refine q_ifeqb (pc := 24) (tgt := 37) dX8_worst_24 (by decide) (fun h24 => ?_) (fun h24 => ?_)
    · refine q_ldc (pc := 37) (n := -1000001) kX8_70 dX8_worst_37 ?_
      refine q_ri (pc := 39) dX8_worst_39 rfl ?_
      refine pM.q0 hF0 hM ?_
      repeat' split
      all_goals first | rfl | omega | contradiction | (simp_all; done)
    · refine q_iload_n (pc := 27) dX8_worst_27 rfl ?_
      refine q_i2l (pc := 28) dX8_worst_28 (by omega) ?_
      refine q_lconst0 (pc := 29) dX8_worst_29 ?_
      refine q_lconst1 (pc := 30) dX8_worst_30 ?_
      refine q_S3i (pc := 31) dX8_worst_31 vX8_60 (Nat.le_of_ble_eq_true rfl) (Nat.le_of_ble_eq_true rfl) (t_X8_in (by omega) (by omega) (by omega)) (fun r3 σ3 hc3 => ?_)
      obtain ⟨rfl, rfl⟩ := hc3
      refine q_ifneb (pc := 34) (tgt := 40) dX8_worst_34 (by decide) (fun h34 => ?_) (fun h34 => ?_)
      · refine q_aload_n (pc := 40) dX8_worst_40 rfl ?_
        refine q_V0v (pc := 41) dX8_worst_41 vX8_216 rfl rfl (Nat.le_of_ble_eq_true rfl) (Nat.le_of_ble_eq_true rfl) (t_X8_layThen hM.1) (fun σ4 hc4 => ?_)
        obtain ⟨hFt, hT⟩ := hc4
        refine q_iconst (pc := 44) dX8_worst_44 ?_
        refine q_istore_n (pc := 45) dX8_worst_45 (Nat.le_of_ble_eq_true rfl) ?_
        refine q_iconst (pc := 46) dX8_worst_46 ?_
        refine q_istore (pc := 47) dX8_worst_47 (Nat.le_of_ble_eq_true rfl) ?_
        refine q_iconst (pc := 49) dX8_worst_49 ?_
        refine q_istore (pc := 50) dX8_worst_50 (Nat.le_of_ble_eq_true rfl) ?_
        exact m_worst_l hM hV (by omega) (by omega) (by omega) hF0 (n + 1).toNat 0 _ (by omega) hFt hT
      · refine q_ldc (pc := 37) (n := -1000001) kX8_70 dX8_worst_37 ?_
        refine q_ri (pc := 39) dX8_worst_39 rfl ?_
        refine pM.q0 hF0 hM ?_
        repeat' split
        all_goals first | rfl | omega | contradiction | (simp_all; done)
  · refine q_ldc (pc := 12) (n := -1000002) kX8_187 dX8_worst_12 ?_
    refine q_ri (pc := 14) dX8_worst_14 rfl ?_
    refine pM.q0 hF0 hM ?_
    repeat' split
    all_goals first | rfl | omega | contradiction | (simp_all; done)
theorem m_fault (hM : MR σ A) : qE G mX8_fault (d + 1) 0 [(0, vr 82)] [] σ (ri (pM σ (s_fault A))) := by
  refine q_aload_n (pc := 0) dX8_fault_0 rfl ?_
  refine q_iconst (pc := 1) dX8_fault_1 ?_
  refine q_pI (pc := 2) 0 dX8_fault_2 wX8_50 rfl rfl rfl ?_
  have hM0 := hM
  have hM := hM.fld (i := 0) (v := 0) (by decide)
  have hF0 : ∀ j, j < 82 → up σ 82 0 0 j = σ j := fun j hj => up_ne (by omega)
  generalize up σ 82 0 0 = τ at hM hF0 ⊢
  refine q_aload_n (pc := 5) dX8_fault_5 rfl ?_
  refine q_gI (pc := 6) 18 dX8_fault_6 fX8_119 rfl rfl rfl ?_
  refine q_ri (pc := 9) dX8_fault_9 rfl ?_
  exact pM.q0 hF0 hM hM.2.2.2.1.symm
theorem m_status (hM : MR σ A) : qE G mX8_status (d + 1) 0 [(0, vr 82)] [] σ (ri (pM σ (s_status A))) := by
  refine q_aload_n (pc := 0) dX8_status_0 rfl ?_
  refine q_iconst (pc := 1) dX8_status_1 ?_
  refine q_pI (pc := 2) 0 dX8_status_2 wX8_50 rfl rfl rfl ?_
  have hM0 := hM
  have hM := hM.fld (i := 0) (v := 0) (by decide)
  have hF0 : ∀ j, j < 82 → up σ 82 0 0 j = σ j := fun j hj => up_ne (by omega)
  generalize up σ 82 0 0 = τ at hM hF0 ⊢
  refine q_aload_n (pc := 5) dX8_status_5 rfl ?_
  refine q_gI (pc := 6) 1 dX8_status_6 fX8_54 rfl rfl rfl ?_
  refine q_ri (pc := 9) dX8_status_9 rfl ?_
  exact pM.q0 hF0 hM hM.2.2.1.symm
theorem m_kind {i : Int} (hM : MR σ A) (hV : AV A) (hi : -2147483648 ≤ i ∧ i ≤ 2147483647) : qE G mX8_kind (d + 2) 0 [(0, vr 82), (1, vi i)] [] σ (ri (pM σ (s_kind A i))) := by
  have hR := hV.1
  have h5 := hR.de
  refine q_aload_n (pc := 0) dX8_kind_0 rfl ?_
  refine q_iconst (pc := 1) dX8_kind_1 ?_
  refine q_pI (pc := 2) 0 dX8_kind_2 wX8_50 rfl rfl rfl ?_
  have hM0 := hM
  have hM := hM.fld (i := 0) (v := 0) (by decide)
  have hF0 : ∀ j, j < 82 → up σ 82 0 0 j = σ j := fun j hj => up_ne (by omega)
  generalize up σ 82 0 0 = τ at hM hF0 ⊢
  refine q_aload_n (pc := 5) dX8_kind_5 rfl ?_
  refine q_iload_n (pc := 6) dX8_kind_6 rfl ?_
  refine q_V1i (pc := 7) dX8_kind_7 vX8_196 rfl rfl (Nat.le_of_ble_eq_true rfl) (Nat.le_of_ble_eq_true rfl) (t_X8_isDeed hM.1 h5 (by omega)) (fun r1 σ1 hc1 => ?_)
  obtain ⟨rfl, rfl⟩ := hc1
  refine q_ifeqb (pc := 10) (tgt := 25) dX8_kind_10 (by decide) (fun h10 => ?_) (fun h10 => ?_)
  · refine q_ldc (pc := 25) (n := -1000001) kX8_70 dX8_kind_25 ?_
    refine q_ri (pc := 27) dX8_kind_27 rfl ?_
    refine pM.q0 hF0 hM ?_
    first
    | (rw [if_pos (by omega)]; exact congrArg A.1 (by omega))
    | rw [if_neg (by omega)]
  · refine q_aload_n (pc := 13) dX8_kind_13 rfl ?_
    refine q_getR (pc := 14) dX8_kind_14 fX8_19 rfl rfl ?_
    refine q_iload_n (pc := 17) dX8_kind_17 rfl ?_
    refine q_iconst (pc := 18) dX8_kind_18 ?_
    refine q_S3i (pc := 19) dX8_kind_19 vX8_172 (Nat.le_of_ble_eq_true rfl) (Nat.le_of_ble_eq_true rfl) (t_X8_of sh86 hM.1 (by omega) (by omega)) (fun r2 σ2 hc2 => ?_)
    obtain ⟨rfl, rfl⟩ := hc2
    refine q_goto (pc := 22) (tgt := 27) dX8_kind_22 (by decide) ?_
    refine q_ri (pc := 27) dX8_kind_27 rfl ?_
    refine pM.q0 hF0 hM ?_
    first
    | (rw [if_pos (by omega)]; exact congrArg A.1 (by omega))
    | rw [if_neg (by omega)]
theorem m_trace {i : Int} (hM : MR σ A) (hV : AV A) (hi : -2147483648 ≤ i ∧ i ≤ 2147483647) : qE G mX8_trace (d + 2) 0 [(0, vr 82), (1, vi i)] [] σ (ri (pM σ (s_trace A i))) := by
  have ht := hV.2.2.2.2.2.2.2.1
  refine q_aload_n (pc := 0) dX8_trace_0 rfl ?_
  refine q_iconst (pc := 1) dX8_trace_1 ?_
  refine q_pI (pc := 2) 0 dX8_trace_2 wX8_50 rfl rfl rfl ?_
  have hM0 := hM
  have hM := hM.fld (i := 0) (v := 0) (by decide)
  have hF0 : ∀ j, j < 82 → up σ 82 0 0 j = σ j := fun j hj => up_ne (by omega)
  generalize up σ 82 0 0 = τ at hM hF0 ⊢
  have hm := hM.2.2.2.2.2.2.2
  have hm1 := hm.1
  refine q_iload_n (pc := 5) dX8_trace_5 rfl ?_
  refine q_i2l (pc := 6) dX8_trace_6 (by omega) ?_
  refine q_lconst0 (pc := 7) dX8_trace_7 ?_
  refine q_aload_n (pc := 8) dX8_trace_8 rfl ?_
  refine q_gI (pc := 9) 24 dX8_trace_9 fX8_268 rfl rfl rfl ?_
  refine q_iconst (pc := 12) dX8_trace_12 ?_
  refine q_isub (pc := 13) dX8_trace_13 ?_
  refine q_i2l (pc := 14) dX8_trace_14 (by omega) ?_
  refine q_S3i (pc := 15) dX8_trace_15 vX8_60 (Nat.le_of_ble_eq_true rfl) (Nat.le_of_ble_eq_true rfl) (t_X8_in (by omega) (by omega) (by omega)) (fun r1 σ1 hc1 => ?_)
  obtain ⟨rfl, rfl⟩ := hc1
  refine q_ifeqb (pc := 18) (tgt := 30) dX8_trace_18 (by decide) (fun h18 => ?_) (fun h18 => ?_)
  · refine q_ldc (pc := 30) (n := -1000000) kX8_93 dX8_trace_30 ?_
    refine q_ri (pc := 32) dX8_trace_32 rfl ?_
    refine pM.q0 hF0 hM ?_
    first
    | (rw [if_pos (by omega)]; exact (hm.2 i (by omega) (by omega)).symm)
    | rw [if_neg (by omega)]
  · refine q_aload_n (pc := 21) dX8_trace_21 rfl ?_
    refine q_getR (pc := 22) dX8_trace_22 fX8_47 rfl rfl ?_
    refine q_iload_n (pc := 25) dX8_trace_25 rfl ?_
    refine q_iald (pc := 26) dX8_trace_26 rfl (by omega) ?_
    refine q_goto (pc := 27) (tgt := 32) dX8_trace_27 (by decide) ?_
    refine q_ri (pc := 32) dX8_trace_32 rfl ?_
    refine pM.q0 hF0 hM ?_
    first
    | (rw [if_pos (by omega)]; exact (hm.2 i (by omega) (by omega)).symm)
    | rw [if_neg (by omega)]
theorem m_count_l {w : Int} (hM : MR σ A) (hV : AV A) (hw : w = 0) {σ0 : qM} (hF0 : ∀ j, j < 82 → σ j = σ0 j) : ∀ (m k : Nat), m + k = 8 → qE G mX8_count (d + 3) 58 [(3, vi k), (2, vi (mCnt A.2.2.2.2.1.1 k)), (0, vr 82), (1, vi w)] [] σ (ri (pM σ0 (s_count A w))) := by
  intro m
  induction m with
  | zero =>
    intro k hk
    refine q_iload_n (pc := 58) dX8_count_58 rfl ?_
    refine q_bipush (pc := 59) dX8_count_59 (by decide +kernel) ?_
    refine q_icmpge (pc := 61) (tgt := 87) dX8_count_61 (by decide) (by omega) (by omega) (fun h61 => ?_) (fun h => absurd h (by omega))
    refine q_iload_n (pc := 87) dX8_count_87 rfl ?_
    refine q_ri (pc := 88) dX8_count_88 rfl ?_
    refine pM.q0 hF0 hM ?_
    rw [if_pos hw, show 8 = k by omega]
  | succ m ih =>
    intro k hk
    have hc := mCnt_in A.2.2.2.2.1.1 k
    have hS := hM.2.2.2.2.1
    have hS1 := hS k (by omega) (by omega)
    have hS2 := hS1.1
    have hW := hV.2.2.2.2.1 k (by omega) (by omega)
    refine q_iload_n (pc := 58) dX8_count_58 rfl ?_
    refine q_bipush (pc := 59) dX8_count_59 (by decide +kernel) ?_
    refine q_icmpge (pc := 61) (tgt := 87) dX8_count_61 (by decide) (by omega) (by omega) (fun h => absurd h (by omega)) (fun h61 => ?_)
    refine q_iload_n (pc := 64) dX8_count_64 rfl ?_
    refine q_aload_n (pc := 65) dX8_count_65 rfl ?_
    refine q_getR (pc := 66) dX8_count_66 fX8_7 rfl rfl ?_
    refine q_iload_n (pc := 69) dX8_count_69 rfl ?_
    refine q_iald (pc := 70) dX8_count_70 rfl (by omega) ?_
    refine q_iflt (pc := 71) (tgt := 78) dX8_count_71 (by decide) (by omega) (fun h71 => ?_) (fun h71 => ?_)
    · refine q_iconst (pc := 78) dX8_count_78 ?_
      refine q_iadd (pc := 79) dX8_count_79 ?_
      refine q_istore_n (pc := 80) dX8_count_80 (Nat.le_of_ble_eq_true rfl) ?_
      refine q_iinc (pc := 81) dX8_count_81 rfl (Nat.le_of_ble_eq_true rfl) ?_
      refine q_goto (pc := 84) (tgt := 58) dX8_count_84 (by decide) ?_
      have q := ih (k + 1) (by omega)
      have e : mCnt A.2.2.2.2.1.1 (k + 1) = mCnt A.2.2.2.2.1.1 k + (if 0 ≤ A.2.2.2.2.1.1 k then 1 else 0) := rfl
      first
      | (exfalso; omega)
      | (rw [e, if_pos (by omega)] at q; exact q_locs _ [0, 1, 2, 3] rfl q)
      | (rw [e, if_neg (by omega)] at q; exact q_locs _ [0, 1, 2, 3] rfl q)
    · refine q_iconst (pc := 74) dX8_count_74 ?_
      refine q_goto (pc := 75) (tgt := 79) dX8_count_75 (by decide) ?_
      refine q_iadd (pc := 79) dX8_count_79 ?_
      refine q_istore_n (pc := 80) dX8_count_80 (Nat.le_of_ble_eq_true rfl) ?_
      refine q_iinc (pc := 81) dX8_count_81 rfl (Nat.le_of_ble_eq_true rfl) ?_
      refine q_goto (pc := 84) (tgt := 58) dX8_count_84 (by decide) ?_
      have q := ih (k + 1) (by omega)
      have e : mCnt A.2.2.2.2.1.1 (k + 1) = mCnt A.2.2.2.2.1.1 k + (if 0 ≤ A.2.2.2.2.1.1 k then 1 else 0) := rfl
      first
      | (exfalso; omega)
      | (rw [e, if_pos (by omega)] at q; exact q_locs _ [0, 1, 2, 3] rfl q)
      | (rw [e, if_neg (by omega)] at q; exact q_locs _ [0, 1, 2, 3] rfl q)
theorem m_count {w : Int} (hM : MR σ A) (hV : AV A) (hw : -2147483648 ≤ w ∧ w ≤ 2147483647) : qE G mX8_count (d + 3) 0 [(0, vr 82), (1, vi w)] [] σ (ri (pM σ (s_count A w))) := by
  have hR := hV.1
  have hO := hR.1
  refine q_aload_n (pc := 0) dX8_count_0 rfl ?_
  refine q_iconst (pc := 1) dX8_count_1 ?_
  refine q_pI (pc := 2) 0 dX8_count_2 wX8_50 rfl rfl rfl ?_
  have hM0 := hM
  have hM := hM.fld (i := 0) (v := 0) (by decide)
  have hF0 : ∀ j, j < 82 → up σ 82 0 0 j = σ j := fun j hj => up_ne (by omega)
  generalize up σ 82 0 0 = τ at hM hF0 ⊢
  refine q_iconst (pc := 5) dX8_count_5 ?_
  refine q_istore_n (pc := 6) dX8_count_6 (Nat.le_of_ble_eq_true rfl) ?_
  refine q_iload_n (pc := 7) dX8_count_7 rfl ?_
  rcases (show w = 0 ∨ w = 1 ∨ w = 2 ∨ w = 3 ∨ w = 4 ∨ w = 5 ∨ w = 6 ∨ w = 7 ∨ (w < 0 ∨ 7 < w) by omega) with hs8 | hs8 | hs8 | hs8 | hs8 | hs8 | hs8 | hs8 | hs8
  · refine q_tsIn (pc := 8) (off := 48) (tgt := 56) dX8_count_8 (by omega) (by omega) (by omega) (by rw [hs8]; rfl) (by decide) ?_
    refine q_iconst (pc := 56) dX8_count_56 ?_
    refine q_istore_n (pc := 57) dX8_count_57 (Nat.le_of_ble_eq_true rfl) ?_
    exact q_locs _ [0, 1, 2, 3] rfl (m_count_l hM hV hs8 hF0 8 0 rfl)
  · refine q_tsIn (pc := 8) (off := 81) (tgt := 89) dX8_count_8 (by omega) (by omega) (by omega) (by rw [hs8]; rfl) (by decide) ?_
    refine q_aload_n (pc := 89) dX8_count_89 rfl ?_
    refine q_getR (pc := 90) dX8_count_90 fX8_19 rfl rfl ?_
    refine q_iconst (pc := 93) dX8_count_93 ?_
    refine q_iald (pc := 94) dX8_count_94 rfl (by omega) ?_
    refine q_ri (pc := 95) dX8_count_95 rfl ?_
    refine pM.q0 hF0 hM ?_
    first
    | (rw [if_neg (by omega), if_pos (by omega)]; exact (hM.1 5 (by omega) (by omega)).symm)
    | (rw [if_neg (by omega), if_neg (by omega), if_pos (by omega)]; exact (hM.1 6 (by omega) (by omega)).symm)
    | (rw [if_neg (by omega), if_neg (by omega), if_neg (by omega), if_pos (by omega)]; exact (hM.1 4 (by omega) (by omega)).symm)
    | (rw [if_neg (by omega), if_neg (by omega), if_neg (by omega), if_neg (by omega), if_pos (by omega)])
    | (rw [if_neg (by omega), if_neg (by omega), if_neg (by omega), if_neg (by omega), if_neg (by omega), if_pos (by omega)]; rw [hM.1 7 (by omega) (by omega), hM.1 8 (by omega) (by omega), hM.1 9 (by omega) (by omega)])
    | (rw [if_neg (by omega), if_neg (by omega), if_neg (by omega), if_neg (by omega), if_neg (by omega), if_neg (by omega), if_pos (by omega)]; exact hM.2.1.1.symm)
    | (rw [if_neg (by omega), if_neg (by omega), if_neg (by omega), if_neg (by omega), if_neg (by omega), if_neg (by omega), if_neg (by omega), if_pos (by omega)]; exact hM.2.2.2.2.2.1.1.symm)
    | (rw [if_neg (by omega), if_neg (by omega), if_neg (by omega), if_neg (by omega), if_neg (by omega), if_neg (by omega), if_neg (by omega), if_neg (by omega)])
  · refine q_tsIn (pc := 8) (off := 88) (tgt := 96) dX8_count_8 (by omega) (by omega) (by omega) (by rw [hs8]; rfl) (by decide) ?_
    refine q_aload_n (pc := 96) dX8_count_96 rfl ?_
    refine q_getR (pc := 97) dX8_count_97 fX8_19 rfl rfl ?_
    refine q_bipush (pc := 100) dX8_count_100 (by decide +kernel) ?_
    refine q_iald (pc := 102) dX8_count_102 rfl (by omega) ?_
    refine q_ri (pc := 103) dX8_count_103 rfl ?_
    refine pM.q0 hF0 hM ?_
    first
    | (rw [if_neg (by omega), if_pos (by omega)]; exact (hM.1 5 (by omega) (by omega)).symm)
    | (rw [if_neg (by omega), if_neg (by omega), if_pos (by omega)]; exact (hM.1 6 (by omega) (by omega)).symm)
    | (rw [if_neg (by omega), if_neg (by omega), if_neg (by omega), if_pos (by omega)]; exact (hM.1 4 (by omega) (by omega)).symm)
    | (rw [if_neg (by omega), if_neg (by omega), if_neg (by omega), if_neg (by omega), if_pos (by omega)])
    | (rw [if_neg (by omega), if_neg (by omega), if_neg (by omega), if_neg (by omega), if_neg (by omega), if_pos (by omega)]; rw [hM.1 7 (by omega) (by omega), hM.1 8 (by omega) (by omega), hM.1 9 (by omega) (by omega)])
    | (rw [if_neg (by omega), if_neg (by omega), if_neg (by omega), if_neg (by omega), if_neg (by omega), if_neg (by omega), if_pos (by omega)]; exact hM.2.1.1.symm)
    | (rw [if_neg (by omega), if_neg (by omega), if_neg (by omega), if_neg (by omega), if_neg (by omega), if_neg (by omega), if_neg (by omega), if_pos (by omega)]; exact hM.2.2.2.2.2.1.1.symm)
    | (rw [if_neg (by omega), if_neg (by omega), if_neg (by omega), if_neg (by omega), if_neg (by omega), if_neg (by omega), if_neg (by omega), if_neg (by omega)])
  · refine q_tsIn (pc := 8) (off := 96) (tgt := 104) dX8_count_8 (by omega) (by omega) (by omega) (by rw [hs8]; rfl) (by decide) ?_
    refine q_aload_n (pc := 104) dX8_count_104 rfl ?_
    refine q_getR (pc := 105) dX8_count_105 fX8_19 rfl rfl ?_
    refine q_iconst (pc := 108) dX8_count_108 ?_
    refine q_iald (pc := 109) dX8_count_109 rfl (by omega) ?_
    refine q_ri (pc := 110) dX8_count_110 rfl ?_
    refine pM.q0 hF0 hM ?_
    first
    | (rw [if_neg (by omega), if_pos (by omega)]; exact (hM.1 5 (by omega) (by omega)).symm)
    | (rw [if_neg (by omega), if_neg (by omega), if_pos (by omega)]; exact (hM.1 6 (by omega) (by omega)).symm)
    | (rw [if_neg (by omega), if_neg (by omega), if_neg (by omega), if_pos (by omega)]; exact (hM.1 4 (by omega) (by omega)).symm)
    | (rw [if_neg (by omega), if_neg (by omega), if_neg (by omega), if_neg (by omega), if_pos (by omega)])
    | (rw [if_neg (by omega), if_neg (by omega), if_neg (by omega), if_neg (by omega), if_neg (by omega), if_pos (by omega)]; rw [hM.1 7 (by omega) (by omega), hM.1 8 (by omega) (by omega), hM.1 9 (by omega) (by omega)])
    | (rw [if_neg (by omega), if_neg (by omega), if_neg (by omega), if_neg (by omega), if_neg (by omega), if_neg (by omega), if_pos (by omega)]; exact hM.2.1.1.symm)
    | (rw [if_neg (by omega), if_neg (by omega), if_neg (by omega), if_neg (by omega), if_neg (by omega), if_neg (by omega), if_neg (by omega), if_pos (by omega)]; exact hM.2.2.2.2.2.1.1.symm)
    | (rw [if_neg (by omega), if_neg (by omega), if_neg (by omega), if_neg (by omega), if_neg (by omega), if_neg (by omega), if_neg (by omega), if_neg (by omega)])
  · refine q_tsIn (pc := 8) (off := 103) (tgt := 111) dX8_count_8 (by omega) (by omega) (by omega) (by rw [hs8]; rfl) (by decide) ?_
    refine q_aload_n (pc := 111) dX8_count_111 rfl ?_
    refine q_getR (pc := 112) dX8_count_112 fX8_19 rfl rfl ?_
    refine q_S1i (pc := 115) dX8_count_115 vX8_193 (Nat.le_of_ble_eq_true rfl) (Nat.le_of_ble_eq_true rfl) (t_X8_awryOf sh86 hM.1 hO) (fun r1 σ1 hc1 => ?_)
    obtain ⟨rfl, rfl⟩ := hc1
    refine q_ri (pc := 118) dX8_count_118 rfl ?_
    refine pM.q0 hF0 hM ?_
    first
    | (rw [if_neg (by omega), if_pos (by omega)]; exact (hM.1 5 (by omega) (by omega)).symm)
    | (rw [if_neg (by omega), if_neg (by omega), if_pos (by omega)]; exact (hM.1 6 (by omega) (by omega)).symm)
    | (rw [if_neg (by omega), if_neg (by omega), if_neg (by omega), if_pos (by omega)]; exact (hM.1 4 (by omega) (by omega)).symm)
    | (rw [if_neg (by omega), if_neg (by omega), if_neg (by omega), if_neg (by omega), if_pos (by omega)])
    | (rw [if_neg (by omega), if_neg (by omega), if_neg (by omega), if_neg (by omega), if_neg (by omega), if_pos (by omega)]; rw [hM.1 7 (by omega) (by omega), hM.1 8 (by omega) (by omega), hM.1 9 (by omega) (by omega)])
    | (rw [if_neg (by omega), if_neg (by omega), if_neg (by omega), if_neg (by omega), if_neg (by omega), if_neg (by omega), if_pos (by omega)]; exact hM.2.1.1.symm)
    | (rw [if_neg (by omega), if_neg (by omega), if_neg (by omega), if_neg (by omega), if_neg (by omega), if_neg (by omega), if_neg (by omega), if_pos (by omega)]; exact hM.2.2.2.2.2.1.1.symm)
    | (rw [if_neg (by omega), if_neg (by omega), if_neg (by omega), if_neg (by omega), if_neg (by omega), if_neg (by omega), if_neg (by omega), if_neg (by omega)])
  · refine q_tsIn (pc := 8) (off := 111) (tgt := 119) dX8_count_8 (by omega) (by omega) (by omega) (by rw [hs8]; rfl) (by decide) ?_
    refine q_aload_n (pc := 119) dX8_count_119 rfl ?_
    refine q_getR (pc := 120) dX8_count_120 fX8_19 rfl rfl ?_
    refine q_bipush (pc := 123) dX8_count_123 (by decide +kernel) ?_
    refine q_iald (pc := 125) dX8_count_125 rfl (by omega) ?_
    refine q_aload_n (pc := 126) dX8_count_126 rfl ?_
    refine q_getR (pc := 127) dX8_count_127 fX8_19 rfl rfl ?_
    refine q_bipush (pc := 130) dX8_count_130 (by decide +kernel) ?_
    refine q_iald (pc := 132) dX8_count_132 rfl (by omega) ?_
    refine q_iadd (pc := 133) dX8_count_133 ?_
    refine q_aload_n (pc := 134) dX8_count_134 rfl ?_
    refine q_getR (pc := 135) dX8_count_135 fX8_19 rfl rfl ?_
    refine q_bipush (pc := 138) dX8_count_138 (by decide +kernel) ?_
    refine q_iald (pc := 140) dX8_count_140 rfl (by omega) ?_
    refine q_iadd (pc := 141) dX8_count_141 ?_
    refine q_ri (pc := 142) dX8_count_142 rfl ?_
    refine pM.q0 hF0 hM ?_
    first
    | (rw [if_neg (by omega), if_pos (by omega)]; exact (hM.1 5 (by omega) (by omega)).symm)
    | (rw [if_neg (by omega), if_neg (by omega), if_pos (by omega)]; exact (hM.1 6 (by omega) (by omega)).symm)
    | (rw [if_neg (by omega), if_neg (by omega), if_neg (by omega), if_pos (by omega)]; exact (hM.1 4 (by omega) (by omega)).symm)
    | (rw [if_neg (by omega), if_neg (by omega), if_neg (by omega), if_neg (by omega), if_pos (by omega)])
    | (rw [if_neg (by omega), if_neg (by omega), if_neg (by omega), if_neg (by omega), if_neg (by omega), if_pos (by omega)]; rw [hM.1 7 (by omega) (by omega), hM.1 8 (by omega) (by omega), hM.1 9 (by omega) (by omega)])
    | (rw [if_neg (by omega), if_neg (by omega), if_neg (by omega), if_neg (by omega), if_neg (by omega), if_neg (by omega), if_pos (by omega)]; exact hM.2.1.1.symm)
    | (rw [if_neg (by omega), if_neg (by omega), if_neg (by omega), if_neg (by omega), if_neg (by omega), if_neg (by omega), if_neg (by omega), if_pos (by omega)]; exact hM.2.2.2.2.2.1.1.symm)
    | (rw [if_neg (by omega), if_neg (by omega), if_neg (by omega), if_neg (by omega), if_neg (by omega), if_neg (by omega), if_neg (by omega), if_neg (by omega)])
  · refine q_tsIn (pc := 8) (off := 135) (tgt := 143) dX8_count_8 (by omega) (by omega) (by omega) (by rw [hs8]; rfl) (by decide) ?_
    refine q_aload_n (pc := 143) dX8_count_143 rfl ?_
    refine q_gI (pc := 144) 9 dX8_count_144 fX8_152 rfl rfl rfl ?_
    refine q_ri (pc := 147) dX8_count_147 rfl ?_
    refine pM.q0 hF0 hM ?_
    first
    | (rw [if_neg (by omega), if_pos (by omega)]; exact (hM.1 5 (by omega) (by omega)).symm)
    | (rw [if_neg (by omega), if_neg (by omega), if_pos (by omega)]; exact (hM.1 6 (by omega) (by omega)).symm)
    | (rw [if_neg (by omega), if_neg (by omega), if_neg (by omega), if_pos (by omega)]; exact (hM.1 4 (by omega) (by omega)).symm)
    | (rw [if_neg (by omega), if_neg (by omega), if_neg (by omega), if_neg (by omega), if_pos (by omega)])
    | (rw [if_neg (by omega), if_neg (by omega), if_neg (by omega), if_neg (by omega), if_neg (by omega), if_pos (by omega)]; rw [hM.1 7 (by omega) (by omega), hM.1 8 (by omega) (by omega), hM.1 9 (by omega) (by omega)])
    | (rw [if_neg (by omega), if_neg (by omega), if_neg (by omega), if_neg (by omega), if_neg (by omega), if_neg (by omega), if_pos (by omega)]; exact hM.2.1.1.symm)
    | (rw [if_neg (by omega), if_neg (by omega), if_neg (by omega), if_neg (by omega), if_neg (by omega), if_neg (by omega), if_neg (by omega), if_pos (by omega)]; exact hM.2.2.2.2.2.1.1.symm)
    | (rw [if_neg (by omega), if_neg (by omega), if_neg (by omega), if_neg (by omega), if_neg (by omega), if_neg (by omega), if_neg (by omega), if_neg (by omega)])
  · refine q_tsIn (pc := 8) (off := 140) (tgt := 148) dX8_count_8 (by omega) (by omega) (by omega) (by rw [hs8]; rfl) (by decide) ?_
    refine q_aload_n (pc := 148) dX8_count_148 rfl ?_
    refine q_gI (pc := 149) 11 dX8_count_149 fX8_77 rfl rfl rfl ?_
    refine q_ri (pc := 152) dX8_count_152 rfl ?_
    refine pM.q0 hF0 hM ?_
    first
    | (rw [if_neg (by omega), if_pos (by omega)]; exact (hM.1 5 (by omega) (by omega)).symm)
    | (rw [if_neg (by omega), if_neg (by omega), if_pos (by omega)]; exact (hM.1 6 (by omega) (by omega)).symm)
    | (rw [if_neg (by omega), if_neg (by omega), if_neg (by omega), if_pos (by omega)]; exact (hM.1 4 (by omega) (by omega)).symm)
    | (rw [if_neg (by omega), if_neg (by omega), if_neg (by omega), if_neg (by omega), if_pos (by omega)])
    | (rw [if_neg (by omega), if_neg (by omega), if_neg (by omega), if_neg (by omega), if_neg (by omega), if_pos (by omega)]; rw [hM.1 7 (by omega) (by omega), hM.1 8 (by omega) (by omega), hM.1 9 (by omega) (by omega)])
    | (rw [if_neg (by omega), if_neg (by omega), if_neg (by omega), if_neg (by omega), if_neg (by omega), if_neg (by omega), if_pos (by omega)]; exact hM.2.1.1.symm)
    | (rw [if_neg (by omega), if_neg (by omega), if_neg (by omega), if_neg (by omega), if_neg (by omega), if_neg (by omega), if_neg (by omega), if_pos (by omega)]; exact hM.2.2.2.2.2.1.1.symm)
    | (rw [if_neg (by omega), if_neg (by omega), if_neg (by omega), if_neg (by omega), if_neg (by omega), if_neg (by omega), if_neg (by omega), if_neg (by omega)])
  · refine q_tsOut (pc := 8) (tgt := 153) dX8_count_8 (by omega) hs8 (by decide) ?_
    refine q_ldc (pc := 153) (n := -1000001) kX8_70 dX8_count_153 ?_
    refine q_ri (pc := 155) dX8_count_155 rfl ?_
    refine pM.q0 hF0 hM ?_
    first
    | (rw [if_neg (by omega), if_pos (by omega)]; exact (hM.1 5 (by omega) (by omega)).symm)
    | (rw [if_neg (by omega), if_neg (by omega), if_pos (by omega)]; exact (hM.1 6 (by omega) (by omega)).symm)
    | (rw [if_neg (by omega), if_neg (by omega), if_neg (by omega), if_pos (by omega)]; exact (hM.1 4 (by omega) (by omega)).symm)
    | (rw [if_neg (by omega), if_neg (by omega), if_neg (by omega), if_neg (by omega), if_pos (by omega)])
    | (rw [if_neg (by omega), if_neg (by omega), if_neg (by omega), if_neg (by omega), if_neg (by omega), if_pos (by omega)]; rw [hM.1 7 (by omega) (by omega), hM.1 8 (by omega) (by omega), hM.1 9 (by omega) (by omega)])
    | (rw [if_neg (by omega), if_neg (by omega), if_neg (by omega), if_neg (by omega), if_neg (by omega), if_neg (by omega), if_pos (by omega)]; exact hM.2.1.1.symm)
    | (rw [if_neg (by omega), if_neg (by omega), if_neg (by omega), if_neg (by omega), if_neg (by omega), if_neg (by omega), if_neg (by omega), if_pos (by omega)]; exact hM.2.2.2.2.2.1.1.symm)
    | (rw [if_neg (by omega), if_neg (by omega), if_neg (by omega), if_neg (by omega), if_neg (by omega), if_neg (by omega), if_neg (by omega), if_neg (by omega)])
end T8
