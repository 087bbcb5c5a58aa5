/-! ===== the class: hours, perform, board, amount, jack, undo ===== -/
section T7
variable {G : qGl} {d : Nat} {σ : qM} {A : qA}
theorem pC.go {σ σ1 : qM} {v r : Int} {A' : qA} (hF : ∀ j, 82 ≤ j → σ1 j = σ j) (h : CR σ1 A') (e : v = r) : pC σ (v, A') r σ1 := by subst e; exact ⟨A', rfl, hF, h⟩
theorem pM.go {σ σ1 : qM} {v r : Int} {A' : qA} (hF : ∀ j, j < 82 → σ1 j = σ j) (h : MR σ1 A') (e : v = r) : pM σ (v, A') r σ1 := by subst e; exact ⟨A', rfl, hF, h⟩
theorem x_keep (hC : CR σ A) : qE G mX0_keep (d + 2) 0 [(0, vr 44), (1, vr 15)] [] σ (rv fun σ1 => Fr σ σ1 [44, 45] ∧ CR σ1 (ak A) ∧ SiR σ1 15 A.1) := by
  refine q_mono (fun v σ' h => ?_) (t_X0_keep hC.1 hC.2.1)
  obtain ⟨h1, h2, h3⟩ := h
  have hs : SiR σ' 15 A.1 := hC.1.fr h2 (fun j a b q => by simp at q; omega)
  exact ⟨h1, h2, hC.site h2 (si_in (by decide)) hs h3, hs⟩
theorem x_pass {f : Int → Int} (hf : SiR σ 15 f) (hR : Row f) (h1 : f 0 = 1) : qE G mX4_passHour (d + 3) 0 [(0, vr 15)] [] σ (rv fun σ1 => Fr σ σ1 [15, 20] ∧ SiR σ1 15 (mHour f)) := by
  refine q_mono (fun v σ' h => ?_) (t_X4_passHour si15 hf hR h1)
  obtain ⟨e, h2, h3⟩ := h
  refine ⟨e, h2, h3.congr ?_ (fun j h0 hj => ?_)⟩
  · rw [u1_ne (by omega), mSink_o _ _ (by omega)]; exact hR.de.2
  · by_cases c : j = 4
    · rw [c, mHour_4]; exact u1_eq.symm
    · rw [u1_ne c]
      by_cases c2 : 7 ≤ j ∧ j ≤ 12
      · exact sink_hours hR.1 (hR.law h1).2.2.1 hR.2.1.1 1 j c2.1 c2.2
      · rw [mSink_o _ _ (by omega)]
        exact mHour_o f (by omega)
theorem x_hours_l {n : Int} (hV : AV A) (h1 : A.1 0 = 1) (hn : 1 ≤ n ∧ n ≤ 24) (h9 : A.1 4 + n ≤ 999) {σ0 : qM} : ∀ (m k : Nat) (σ : qM), (m : Int) + k = n → (∀ j, 82 ≤ j → σ j = σ0 j) → CR σ (hK k A) → qE G mX7_hours (d + 4) 46 [(2, vi k), (0, vr 0), (1, vi n)] [] σ (ri (pC σ0 (s_hours A n))) := by
  intro m
  induction m with
  | zero =>
    intro k σ hk hF hC
    have hv := hK_av hV h1 k (by omega)
    have hS : StR σ 19 (hK k A).1 := hC.1.2.2.1
    have hO := hv.1.1.1
    refine q_iload_n (pc := 46) dX7_hours_46 rfl ?_
    refine q_iload_n (pc := 47) dX7_hours_47 rfl ?_
    refine q_icmpge (pc := 48) (tgt := 75) dX7_hours_48 (by decide) (by omega) (by omega) (fun h48 => ?_) (fun h => absurd h (by omega))
    refine q_aload_n (pc := 75) dX7_hours_75 rfl ?_
    refine q_getR (pc := 76) dX7_hours_76 fX7_26 rfl rfl ?_
    refine q_getR (pc := 79) dX7_hours_79 fX7_154 rfl rfl ?_
    refine q_V0i (pc := 82) dX7_hours_82 vX7_158 rfl rfl (Nat.le_of_ble_eq_true rfl) (Nat.le_of_ble_eq_true rfl) (t_X5_awry st19 hS hO) (fun r1 σ1 hc1 => ?_)
    obtain ⟨rfl, rfl⟩ := hc1
    refine q_ri (pc := 85) dX7_hours_85 rfl ?_
    have e : s_hours A n = (mAwry (hK k A).1, hK k A) := by
      unfold s_hours
      rw [if_pos h1, if_pos hn, if_neg (by omega), show n.toNat = k by omega]
    exact ⟨_, e, hF, hC⟩
  | succ m ih =>
    intro k σ hk hF hC
    obtain ⟨hv, hv1, hv2⟩ := hK_av hV h1 k (by omega)
    refine q_iload_n (pc := 46) dX7_hours_46 rfl ?_
    refine q_iload_n (pc := 47) dX7_hours_47 rfl ?_
    refine q_icmpge (pc := 48) (tgt := 75) dX7_hours_48 (by decide) (by omega) (by omega) (fun h => absurd h (by omega)) (fun h48 => ?_)
    refine q_aload_n (pc := 51) dX7_hours_51 rfl ?_
    refine q_getR (pc := 52) dX7_hours_52 fX7_40 rfl rfl ?_
    refine q_aload_n (pc := 55) dX7_hours_55 rfl ?_
    refine q_getR (pc := 56) dX7_hours_56 fX7_26 rfl rfl ?_
    refine q_V1v (pc := 59) dX7_hours_59 vX7_148 rfl rfl (Nat.le_of_ble_eq_true rfl) (Nat.le_of_ble_eq_true rfl) (x_keep hC) (fun σ1 hc1 => ?_)
    obtain ⟨hF1, hC1, hs1⟩ := hc1
    refine q_aload_n (pc := 62) dX7_hours_62 rfl ?_
    refine q_getR (pc := 63) dX7_hours_63 fX7_26 rfl rfl ?_
    refine q_V0v (pc := 66) dX7_hours_66 vX7_151 rfl rfl (Nat.le_of_ble_eq_true rfl) (Nat.le_of_ble_eq_true rfl) (x_pass hs1 hv.1 hv1) (fun σ2 hc2 => ?_)
    obtain ⟨hF2, hs2⟩ := hc2
    refine q_iinc (pc := 69) dX7_hours_69 rfl (Nat.le_of_ble_eq_true rfl) ?_
    refine q_goto (pc := 72) (tgt := 46) dX7_hours_72 (by decide) ?_
    have q := ih (k + 1) σ2 (by omega) (fun j hj => by rw [hF2.c (by decide) j hj, hF1.c (by decide) j hj]; exact hF j hj) (hC1.row hF2 (by decide) hs2)
    exact q_locs _ [0, 1, 2] rfl q
theorem x_hours {n : Int} (hC : CR σ A) (hV : AV A) (hn : -2147483648 ≤ n ∧ n ≤ 2147483647) : qE G mX7_hours (d + 4) 0 [(0, vr 0), (1, vi n)] [] σ (ri (pC σ (s_hours A n))) := by
  have hR := hV.1
  have h01 := hR.f0
  have e0 := hC.1.1.1
  have e4 := hC.1.1.2.1
  have h4 := hR.2.1
  refine q_aload_n (pc := 0) dX7_hours_0 rfl ?_
  refine q_getR (pc := 1) dX7_hours_1 fX7_26 rfl rfl ?_
  refine q_gI (pc := 4) 0 dX7_hours_4 fX7_141 rfl rfl rfl ?_
  refine q_ifne (pc := 7) (tgt := 13) dX7_hours_7 (by decide) (by omega) (fun h7 => ?_) (fun h7 => ?_)
  · refine q_iload_n (pc := 13) dX7_hours_13 rfl ?_
    refine q_iconst (pc := 14) dX7_hours_14 ?_
    refine q_bipush (pc := 15) dX7_hours_15 (by decide +kernel) ?_
    refine q_S3i (pc := 17) dX7_hours_17 vX7_62 (Nat.le_of_ble_eq_true rfl) (Nat.le_of_ble_eq_true rfl) (t_X7_isWithin (by omega) (by omega) (by omega)) (fun r1 σ1 hc1 => ?_)
    obtain ⟨rfl, rfl⟩ := hc1
    refine q_ifneb (pc := 20) (tgt := 26) dX7_hours_20 (by decide) (fun h20 => ?_) (fun h20 => ?_)
    · refine q_aload_n (pc := 26) dX7_hours_26 rfl ?_
      refine q_getR (pc := 27) dX7_hours_27 fX7_26 rfl rfl ?_
      refine q_gI (pc := 30) 4 dX7_hours_30 fX7_145 rfl rfl rfl ?_
      refine q_iload_n (pc := 33) dX7_hours_33 rfl ?_
      refine q_iadd (pc := 34) dX7_hours_34 ?_
      refine q_sipush (pc := 35) dX7_hours_35 (by decide +kernel) ?_
      refine q_icmple (pc := 38) (tgt := 44) dX7_hours_38 (by decide) (by omega) (by omega) (fun h38 => ?_) (fun h38 => ?_)
      · refine q_iconst (pc := 44) dX7_hours_44 ?_
        refine q_istore_n (pc := 45) dX7_hours_45 (Nat.le_of_ble_eq_true rfl) ?_
        exact x_hours_l hV (by omega) (by omega) (by omega) n.toNat 0 σ (by omega) (fun _ _ => rfl) hC
      · refine q_ldc (pc := 41) (n := -1000003) kX7_102 dX7_hours_41 ?_
        refine q_ri (pc := 43) dX7_hours_43 rfl ?_
        refine ⟨A, ?_, fun _ _ => rfl, hC⟩
        first | unfold s_hours | unfold s_perform | unfold s_board | unfold s_amount | unfold s_jack
        repeat' (first | rw [if_neg (by omega)] | rw [if_pos (by omega)] | rw [if_pos (by assumption)] | rw [if_neg (by assumption)])
    · refine q_ldc (pc := 23) (n := -1000001) kX7_66 dX7_hours_23 ?_
      refine q_ri (pc := 25) dX7_hours_25 rfl ?_
      refine ⟨A, ?_, fun _ _ => rfl, hC⟩
      first | unfold s_hours | unfold s_perform | unfold s_board | unfold s_amount | unfold s_jack
      repeat' (first | rw [if_neg (by omega)] | rw [if_pos (by omega)] | rw [if_pos (by assumption)] | rw [if_neg (by assumption)])
  · refine q_ldc (pc := 10) (n := -1000002) kX7_137 dX7_hours_10 ?_
    refine q_ri (pc := 12) dX7_hours_12 rfl ?_
    refine ⟨A, ?_, fun _ _ => rfl, hC⟩
    first | unfold s_hours | unfold s_perform | unfold s_board | unfold s_amount | unfold s_jack
    repeat' (first | rw [if_neg (by omega)] | rw [if_pos (by omega)] | rw [if_pos (by assumption)] | rw [if_neg (by assumption)])
theorem x_perform {i : Int} (hC : CR σ A) (hV : AV A) (hi : -2147483648 ≤ i ∧ i ≤ 2147483647) : qE G mX7_perform (d + 5) 0 [(0, vr 0), (1, vi i)] [] σ (ri (pC σ (s_perform A i))) := by
  have hR := hV.1
  have h5 := hR.de
  refine q_aload_n (pc := 0) dX7_perform_0 rfl ?_
  refine q_getR (pc := 1) dX7_perform_1 fX7_26 rfl rfl ?_
  refine q_iload_n (pc := 4) dX7_perform_4 rfl ?_
  refine q_V1i (pc := 5) dX7_perform_5 vX7_164 rfl rfl (Nat.le_of_ble_eq_true rfl) (Nat.le_of_ble_eq_true rfl) (t_X4_hasDeed si15 hC.1 hV.1 (by omega)) (fun r1 σ1 hc1 => ?_)
  obtain ⟨rfl, rfl⟩ := hc1
  refine q_ifneb (pc := 8) (tgt := 14) dX7_perform_8 (by decide) (fun h8 => ?_) (fun h8 => ?_)
  · refine q_aload_n (pc := 14) dX7_perform_14 rfl ?_
    refine q_getR (pc := 15) dX7_perform_15 fX7_26 rfl rfl ?_
    refine q_iload_n (pc := 18) dX7_perform_18 rfl ?_
    refine q_V1i (pc := 19) dX7_perform_19 vX7_167 rfl rfl (Nat.le_of_ble_eq_true rfl) (Nat.le_of_ble_eq_true rfl) (t_X4_isDone si15 hC.1) (fun r2 σ2 hc2 => ?_)
    obtain ⟨rfl, rfl⟩ := hc2
    refine q_ifeqb (pc := 22) (tgt := 28) dX7_perform_22 (by decide) (fun h22 => ?_) (fun h22 => ?_)
    · refine q_aload_n (pc := 28) dX7_perform_28 rfl ?_
      refine q_getR (pc := 29) dX7_perform_29 fX7_40 rfl rfl ?_
      refine q_aload_n (pc := 32) dX7_perform_32 rfl ?_
      refine q_getR (pc := 33) dX7_perform_33 fX7_26 rfl rfl ?_
      refine q_V1v (pc := 36) dX7_perform_36 vX7_148 rfl rfl (Nat.le_of_ble_eq_true rfl) (Nat.le_of_ble_eq_true rfl) (x_keep hC) (fun σ3 hc3 => ?_)
      obtain ⟨hF3, hC3, hs3⟩ := hc3
      refine q_aload_n (pc := 39) dX7_perform_39 rfl ?_
      refine q_getR (pc := 40) dX7_perform_40 fX7_26 rfl rfl ?_
      refine q_iload_n (pc := 43) dX7_perform_43 rfl ?_
      refine q_aload_n (pc := 44) dX7_perform_44 rfl ?_
      refine q_getR (pc := 45) dX7_perform_45 fX7_26 rfl rfl ?_
      refine q_getR (pc := 48) dX7_perform_48 fX7_154 rfl rfl ?_
      refine q_V2v (pc := 51) dX7_perform_51 vX7_170 rfl rfl (Nat.le_of_ble_eq_true rfl) (Nat.le_of_ble_eq_true rfl) (t_X4_enact si15 st19 hs3 hR (by omega) hs3.2.2.1 hR.1) (fun σ4 hc4 => ?_)
      obtain ⟨hF4, hS4, hO4⟩ := hc4
      refine q_aload_n (pc := 54) dX7_perform_54 rfl ?_
      refine q_getR (pc := 55) dX7_perform_55 fX7_26 rfl rfl ?_
      refine q_dup (pc := 58) dX7_perform_58 rfl ?_
      refine q_gI (pc := 59) 6 dX7_perform_59 fX7_174 rfl rfl rfl ?_
      refine q_iconst (pc := 62) dX7_perform_62 ?_
      refine q_iload_n (pc := 63) dX7_perform_63 rfl ?_
      refine q_ishl (pc := 64) dX7_perform_64 ?_
      refine q_ior (pc := 65) dX7_perform_65 ?_
      refine q_pI (pc := 66) 6 dX7_perform_66 wX7_174 rfl rfl rfl ?_
      have hs : SiR σ4 15 (mAct A.1 (A.1 (13 + 3 * i)) (A.1 (14 + 3 * i)) (A.1 (15 + 3 * i))) := hs3.st hF4 hS4 (by decide) (fun j hj => mAct_o _ _ _ _ (hR.d (by omega) (by omega)).2.1.1 (hR.d (by omega) (by omega)).2.1.2 (by omega))
      have e6 : σ4 15 6 = A.1 6 := by rw [hs.1.2.2.2, mAct_o _ _ _ _ (hR.d (by omega) (by omega)).2.1.1 (hR.d (by omega) (by omega)).2.1.2 (by omega)]
      have hq : SiR (up σ4 15 6 (qor (σ4 15 6) (qshl 1 i))) 15 (mDo A.1 i) := by
        rw [e6]; exact hs.u6
      have e : s_perform A i = (mAwry (mDo A.1 i), mDo A.1 i, kp A, A.2.2) := by
        unfold s_perform
        rw [if_pos (by omega), if_neg (by assumption)]
      refine q_aload_n (pc := 69) dX7_perform_69 rfl ?_
      refine q_getR (pc := 70) dX7_perform_70 fX7_26 rfl rfl ?_
      refine q_getR (pc := 73) dX7_perform_73 fX7_154 rfl rfl ?_
      refine q_V0i (pc := 76) dX7_perform_76 vX7_158 rfl rfl (Nat.le_of_ble_eq_true rfl) (Nat.le_of_ble_eq_true rfl) (t_X5_awry st19 hq.2.2.1 (mDo_ok hR.1 (hR.d (by omega) (by omega)).2.1)) (fun r5 σ5 hc5 => ?_)
      obtain ⟨rfl, rfl⟩ := hc5
      refine q_ri (pc := 79) dX7_perform_79 rfl ?_
      exact ⟨_, e, fun j hj => by rw [up_ne (by omega), hF4.c (by decide) j hj, hF3.c (by decide) j hj], hC3.row (S := [15, 20, 21]) (Fr.tr hF4 (Fr.up (S := [15]) (by decide)) (fun j q => by simp at q ⊢; omega)) (by decide) hq⟩
    · refine q_ldc (pc := 25) (n := -1000002) kX7_137 dX7_perform_25 ?_
      refine q_ri (pc := 27) dX7_perform_27 rfl ?_
      refine ⟨A, ?_, fun _ _ => rfl, hC⟩
      first | unfold s_hours | unfold s_perform | unfold s_board | unfold s_amount | unfold s_jack
      repeat' (first | rw [if_neg (by omega)] | rw [if_pos (by omega)] | rw [if_pos (by assumption)] | rw [if_neg (by assumption)])
  · refine q_ldc (pc := 11) (n := -1000001) kX7_66 dX7_perform_11 ?_
    refine q_ri (pc := 13) dX7_perform_13 rfl ?_
    refine ⟨A, ?_, fun _ _ => rfl, hC⟩
    first | unfold s_hours | unfold s_perform | unfold s_board | unfold s_amount | unfold s_jack
    repeat' (first | rw [if_neg (by omega)] | rw [if_pos (by omega)] | rw [if_pos (by assumption)] | rw [if_neg (by assumption)])
theorem x_board {i : Int} (hC : CR σ A) (hV : AV A) (hi : -2147483648 ≤ i ∧ i ≤ 2147483647) : qE G mX7_board (d + 3) 0 [(0, vr 0), (1, vi i)] [] σ (ri (pC σ (s_board A i))) := by
  have hR := hV.1
  have h01 := hR.f0
  have e0 := hC.1.1.1
  have hS : StR σ 19 A.1 := hC.1.2.2.1
  refine q_aload_n (pc := 0) dX7_board_0 rfl ?_
  refine q_getR (pc := 1) dX7_board_1 fX7_26 rfl rfl ?_
  refine q_gI (pc := 4) 0 dX7_board_4 fX7_141 rfl rfl rfl ?_
  refine q_ifne (pc := 7) (tgt := 13) dX7_board_7 (by decide) (by omega) (fun h7 => ?_) (fun h7 => ?_)
  · refine q_iload_n (pc := 13) dX7_board_13 rfl ?_
    refine q_S1i (pc := 14) dX7_board_14 vX7_177 (Nat.le_of_ble_eq_true rfl) (Nat.le_of_ble_eq_true rfl) (t_X7_isFoot (by omega)) (fun r1 σ1 hc1 => ?_)
    obtain ⟨rfl, rfl⟩ := hc1
    refine q_ifneb (pc := 17) (tgt := 23) dX7_board_17 (by decide) (fun h17 => ?_) (fun h17 => ?_)
    · have es : σ 21 i = A.1 (10 + i) := hS.s (i := i) (by omega) (by omega)
      have eo := hR.1.s (i := i) (by omega) (by omega)
      refine q_aload_n (pc := 23) dX7_board_23 rfl ?_
      refine q_getR (pc := 24) dX7_board_24 fX7_26 rfl rfl ?_
      refine q_getR (pc := 27) dX7_board_27 fX7_154 rfl rfl ?_
      refine q_getR (pc := 30) dX7_board_30 fX7_180 rfl rfl ?_
      refine q_iload_n (pc := 33) dX7_board_33 rfl ?_
      refine q_iald (pc := 34) dX7_board_34 rfl (by omega) ?_
      refine q_ifne (pc := 35) (tgt := 41) dX7_board_35 (by decide) (by omega) (fun h35 => ?_) (fun h35 => ?_)
      · refine q_aload_n (pc := 41) dX7_board_41 rfl ?_
        refine q_getR (pc := 42) dX7_board_42 fX7_40 rfl rfl ?_
        refine q_aload_n (pc := 45) dX7_board_45 rfl ?_
        refine q_getR (pc := 46) dX7_board_46 fX7_26 rfl rfl ?_
        refine q_V1v (pc := 49) dX7_board_49 vX7_148 rfl rfl (Nat.le_of_ble_eq_true rfl) (Nat.le_of_ble_eq_true rfl) (x_keep hC) (fun σ2 hc2 => ?_)
        obtain ⟨hF2, hC2, hs2⟩ := hc2
        refine q_aload_n (pc := 52) dX7_board_52 rfl ?_
        refine q_getR (pc := 53) dX7_board_53 fX7_26 rfl rfl ?_
        refine q_getR (pc := 56) dX7_board_56 fX7_154 rfl rfl ?_
        refine q_iload_n (pc := 59) dX7_board_59 rfl ?_
        refine q_iconst (pc := 60) dX7_board_60 ?_
        refine q_V2v (pc := 61) dX7_board_61 vX7_184 rfl rfl (Nat.le_of_ble_eq_true rfl) (Nat.le_of_ble_eq_true rfl) (t_X5_soften st19 hs2.2.2.1 hR.1 (by omega) (by omega) (by omega)) (fun σ3 hc3 => ?_)
        obtain ⟨hF3, hS3, hO3⟩ := hc3
        refine q_aload_n (pc := 64) dX7_board_64 rfl ?_
        refine q_getR (pc := 65) dX7_board_65 fX7_26 rfl rfl ?_
        refine q_getR (pc := 68) dX7_board_68 fX7_154 rfl rfl ?_
        refine q_getR (pc := 71) dX7_board_71 fX7_180 rfl rfl ?_
        refine q_iload_n (pc := 74) dX7_board_74 rfl ?_
        refine q_iald (pc := 75) dX7_board_75 rfl (by omega) ?_
        refine q_ri (pc := 76) dX7_board_76 rfl ?_
        have ec : c9 (A.1 (10 + i) + -1) = A.1 (10 + i) - 1 := by unfold c9; split <;> (try split) <;> omega
        rw [ec] at hS3
        have e : s_board A i = (A.1 (10 + i) - 1, u1 A.1 (10 + i) (A.1 (10 + i) - 1), kp A, A.2.2) := by
          unfold s_board
          rw [if_pos (by omega), if_pos (by omega), if_neg (by omega)]
        rw [e]
        refine pC.go (fun j hj => by rw [hF3.c (by decide) j hj, hF2.c (by decide) j hj]) (hC2.row hF3 (by decide) (hs2.st hF3 hS3 (by decide) (fun j hj => u1_ne (by omega)))) ?_
        exact ((hS3.s (by omega) (by omega)).trans u1_eq).symm
      · refine q_ldc (pc := 38) (n := -1000002) kX7_137 dX7_board_38 ?_
        refine q_ri (pc := 40) dX7_board_40 rfl ?_
        refine ⟨A, ?_, fun _ _ => rfl, hC⟩
        first | unfold s_hours | unfold s_perform | unfold s_board | unfold s_amount | unfold s_jack
        repeat' (first | rw [if_neg (by omega)] | rw [if_pos (by omega)] | rw [if_pos (by assumption)] | rw [if_neg (by assumption)])
    · refine q_ldc (pc := 20) (n := -1000001) kX7_66 dX7_board_20 ?_
      refine q_ri (pc := 22) dX7_board_22 rfl ?_
      refine ⟨A, ?_, fun _ _ => rfl, hC⟩
      first | unfold s_hours | unfold s_perform | unfold s_board | unfold s_amount | unfold s_jack
      repeat' (first | rw [if_neg (by omega)] | rw [if_pos (by omega)] | rw [if_pos (by assumption)] | rw [if_neg (by assumption)])
  · refine q_ldc (pc := 10) (n := -1000002) kX7_137 dX7_board_10 ?_
    refine q_ri (pc := 12) dX7_board_12 rfl ?_
    refine ⟨A, ?_, fun _ _ => rfl, hC⟩
    first | unfold s_hours | unfold s_perform | unfold s_board | unfold s_amount | unfold s_jack
    repeat' (first | rw [if_neg (by omega)] | rw [if_pos (by omega)] | rw [if_pos (by assumption)] | rw [if_neg (by assumption)])
theorem x_amount {i n : Int} (hC : CR σ A) (hV : AV A) (hi : -2147483648 ≤ i ∧ i ≤ 2147483647) (hn : -2147483648 ≤ n ∧ n ≤ 2147483647) : qE G mX7_amount (d + 3) 0 [(0, vr 0), (1, vi i), (2, vi n)] [] σ (ri (pC σ (s_amount A i n))) := by
  have hR := hV.1
  have h5 := hR.de
  refine q_aload_n (pc := 0) dX7_amount_0 rfl ?_
  refine q_getR (pc := 1) dX7_amount_1 fX7_26 rfl rfl ?_
  refine q_iload_n (pc := 4) dX7_amount_4 rfl ?_
  refine q_V1i (pc := 5) dX7_amount_5 vX7_164 rfl rfl (Nat.le_of_ble_eq_true rfl) (Nat.le_of_ble_eq_true rfl) (t_X4_hasDeed si15 hC.1 hV.1 (by omega)) (fun r1 σ1 hc1 => ?_)
  obtain ⟨rfl, rfl⟩ := hc1
  refine q_ifeqb (pc := 8) (tgt := 18) dX7_amount_8 (by decide) (fun h8 => ?_) (fun h8 => ?_)
  · refine q_ldc (pc := 18) (n := -1000001) kX7_66 dX7_amount_18 ?_
    refine q_ri (pc := 20) dX7_amount_20 rfl ?_
    refine ⟨A, ?_, fun _ _ => rfl, hC⟩
    first | unfold s_hours | unfold s_perform | unfold s_board | unfold s_amount | unfold s_jack
    repeat' (first | rw [if_neg (by omega)] | rw [if_pos (by omega)] | rw [if_pos (by assumption)] | rw [if_neg (by assumption)])
  · refine q_iload_n (pc := 11) dX7_amount_11 rfl ?_
    refine q_S1i (pc := 12) dX7_amount_12 vX7_188 (Nat.le_of_ble_eq_true rfl) (Nat.le_of_ble_eq_true rfl) (t_X7_isAmount (by omega)) (fun r2 σ2 hc2 => ?_)
    obtain ⟨rfl, rfl⟩ := hc2
    refine q_ifneb (pc := 15) (tgt := 21) dX7_amount_15 (by decide) (fun h15 => ?_) (fun h15 => ?_)
    · refine q_aload_n (pc := 21) dX7_amount_21 rfl ?_
      refine q_getR (pc := 22) dX7_amount_22 fX7_26 rfl rfl ?_
      refine q_iload_n (pc := 25) dX7_amount_25 rfl ?_
      refine q_V1i (pc := 26) dX7_amount_26 vX7_167 rfl rfl (Nat.le_of_ble_eq_true rfl) (Nat.le_of_ble_eq_true rfl) (t_X4_isDone si15 hC.1) (fun r3 σ3 hc3 => ?_)
      obtain ⟨rfl, rfl⟩ := hc3
      refine q_ifeqb (pc := 29) (tgt := 35) dX7_amount_29 (by decide) (fun h29 => ?_) (fun h29 => ?_)
      · refine q_aload_n (pc := 35) dX7_amount_35 rfl ?_
        refine q_getR (pc := 36) dX7_amount_36 fX7_40 rfl rfl ?_
        refine q_aload_n (pc := 39) dX7_amount_39 rfl ?_
        refine q_getR (pc := 40) dX7_amount_40 fX7_26 rfl rfl ?_
        refine q_V1v (pc := 43) dX7_amount_43 vX7_148 rfl rfl (Nat.le_of_ble_eq_true rfl) (Nat.le_of_ble_eq_true rfl) (x_keep hC) (fun σ4 hc4 => ?_)
        obtain ⟨hF4, hC4, hs4⟩ := hc4
        refine q_aload_n (pc := 46) dX7_amount_46 rfl ?_
        refine q_getR (pc := 47) dX7_amount_47 fX7_26 rfl rfl ?_
        refine q_getR (pc := 50) dX7_amount_50 fX7_191 rfl rfl ?_
        refine q_iload_n (pc := 53) dX7_amount_53 rfl ?_
        refine q_iald (pc := 54) dX7_amount_54 rfl (by omega) ?_
        refine q_istore_n (pc := 55) dX7_amount_55 (Nat.le_of_ble_eq_true rfl) ?_
        refine q_aload_n (pc := 56) dX7_amount_56 rfl ?_
        refine q_getR (pc := 57) dX7_amount_57 fX7_26 rfl rfl ?_
        refine q_getR (pc := 60) dX7_amount_60 fX7_191 rfl rfl ?_
        refine q_iload_n (pc := 63) dX7_amount_63 rfl ?_
        refine q_iload_n (pc := 64) dX7_amount_64 rfl ?_
        refine q_iast (pc := 65) dX7_amount_65 rfl (by omega) ?_
        refine q_iload_n (pc := 66) dX7_amount_66 rfl ?_
        refine q_ri (pc := 67) dX7_amount_67 rfl ?_
        have e : s_amount A i n = (A.1 (15 + 3 * i), u1 A.1 (15 + 3 * i) n, kp A, A.2.2) := by
          unfold s_amount
          rw [if_pos (by omega), if_neg (by assumption)]
        rw [e]
        refine pC.go (fun j hj => by rw [up_ne (by omega), hF4.c (by decide) j hj]) (hC4.row (S := [18]) (Fr.up (by decide)) (by decide) (hs4.am (by omega))) ?_
        exact (hs4.2.2.2 i (by omega) (by omega)).2.2.symm
      · refine q_ldc (pc := 32) (n := -1000002) kX7_137 dX7_amount_32 ?_
        refine q_ri (pc := 34) dX7_amount_34 rfl ?_
        refine ⟨A, ?_, fun _ _ => rfl, hC⟩
        first | unfold s_hours | unfold s_perform | unfold s_board | unfold s_amount | unfold s_jack
        repeat' (first | rw [if_neg (by omega)] | rw [if_pos (by omega)] | rw [if_pos (by assumption)] | rw [if_neg (by assumption)])
    · refine q_ldc (pc := 18) (n := -1000001) kX7_66 dX7_amount_18 ?_
      refine q_ri (pc := 20) dX7_amount_20 rfl ?_
      refine ⟨A, ?_, fun _ _ => rfl, hC⟩
      first | unfold s_hours | unfold s_perform | unfold s_board | unfold s_amount | unfold s_jack
      repeat' (first | rw [if_neg (by omega)] | rw [if_pos (by omega)] | rw [if_pos (by assumption)] | rw [if_neg (by assumption)])
theorem x_jack {i n : Int} (hC : CR σ A) (hV : AV A) (hi : -2147483648 ≤ i ∧ i ≤ 2147483647) (hn : -2147483648 ≤ n ∧ n ≤ 2147483647) : qE G mX7_jack (d + 3) 0 [(0, vr 0), (1, vi i), (2, vi n)] [] σ (ri (pC σ (s_jack A i n))) := by
  have hR := hV.1
  have h01 := hR.f0
  have e0 := hC.1.1.1
  refine q_aload_n (pc := 0) dX7_jack_0 rfl ?_
  refine q_getR (pc := 1) dX7_jack_1 fX7_26 rfl rfl ?_
  refine q_gI (pc := 4) 0 dX7_jack_4 fX7_141 rfl rfl rfl ?_
  refine q_ifne (pc := 7) (tgt := 13) dX7_jack_7 (by decide) (by omega) (fun h7 => ?_) (fun h7 => ?_)
  · refine q_iload_n (pc := 13) dX7_jack_13 rfl ?_
    refine q_S1i (pc := 14) dX7_jack_14 vX7_177 (Nat.le_of_ble_eq_true rfl) (Nat.le_of_ble_eq_true rfl) (t_X7_isFoot (by omega)) (fun r1 σ1 hc1 => ?_)
    obtain ⟨rfl, rfl⟩ := hc1
    refine q_ifeqb (pc := 17) (tgt := 27) dX7_jack_17 (by decide) (fun h17 => ?_) (fun h17 => ?_)
    · refine q_ldc (pc := 27) (n := -1000001) kX7_66 dX7_jack_27 ?_
      refine q_ri (pc := 29) dX7_jack_29 rfl ?_
      refine ⟨A, ?_, fun _ _ => rfl, hC⟩
      first | unfold s_hours | unfold s_perform | unfold s_board | unfold s_amount | unfold s_jack
      repeat' (first | rw [if_neg (by omega)] | rw [if_pos (by omega)] | rw [if_pos (by assumption)] | rw [if_neg (by assumption)])
    · refine q_iload_n (pc := 20) dX7_jack_20 rfl ?_
      refine q_S1i (pc := 21) dX7_jack_21 vX7_188 (Nat.le_of_ble_eq_true rfl) (Nat.le_of_ble_eq_true rfl) (t_X7_isAmount (by omega)) (fun r2 σ2 hc2 => ?_)
      obtain ⟨rfl, rfl⟩ := hc2
      refine q_ifneb (pc := 24) (tgt := 30) dX7_jack_24 (by decide) (fun h24 => ?_) (fun h24 => ?_)
      · refine q_aload_n (pc := 30) dX7_jack_30 rfl ?_
        refine q_getR (pc := 31) dX7_jack_31 fX7_40 rfl rfl ?_
        refine q_aload_n (pc := 34) dX7_jack_34 rfl ?_
        refine q_getR (pc := 35) dX7_jack_35 fX7_26 rfl rfl ?_
        refine q_V1v (pc := 38) dX7_jack_38 vX7_148 rfl rfl (Nat.le_of_ble_eq_true rfl) (Nat.le_of_ble_eq_true rfl) (x_keep hC) (fun σ3 hc3 => ?_)
        obtain ⟨hF3, hC3, hs3⟩ := hc3
        refine q_aload_n (pc := 41) dX7_jack_41 rfl ?_
        refine q_getR (pc := 42) dX7_jack_42 fX7_26 rfl rfl ?_
        refine q_getR (pc := 45) dX7_jack_45 fX7_154 rfl rfl ?_
        refine q_iload_n (pc := 48) dX7_jack_48 rfl ?_
        refine q_iload_n (pc := 49) dX7_jack_49 rfl ?_
        refine q_V2v (pc := 50) dX7_jack_50 vX7_194 rfl rfl (Nat.le_of_ble_eq_true rfl) (Nat.le_of_ble_eq_true rfl) (t_X5_shift st19 hs3.2.2.1 hR.1 (by omega) (by omega) (by omega)) (fun σ4 hc4 => ?_)
        obtain ⟨hF4, hS4⟩ := hc4
        refine q_aload_n (pc := 53) dX7_jack_53 rfl ?_
        refine q_getR (pc := 54) dX7_jack_54 fX7_26 rfl rfl ?_
        refine q_getR (pc := 57) dX7_jack_57 fX7_154 rfl rfl ?_
        refine q_getR (pc := 60) dX7_jack_60 fX7_197 rfl rfl ?_
        refine q_iload_n (pc := 63) dX7_jack_63 rfl ?_
        refine q_iald (pc := 64) dX7_jack_64 rfl (by omega) ?_
        refine q_ri (pc := 65) dX7_jack_65 rfl ?_
        have e : s_jack A i n = (mLift A.1 i n (7 + i), mLift A.1 i n, kp A, A.2.2) := by
          unfold s_jack
          rw [if_pos (by omega), if_pos (by omega)]
        rw [e]
        refine pC.go (fun j hj => by rw [hF4.c (by decide) j hj, hF3.c (by decide) j hj]) (hC3.row hF4 (by decide) (hs3.st hF4 hS4 (by decide) (fun j hj => u1_ne (by omega)))) ?_
        exact (hS4.h (by omega) (by omega)).symm
      · refine q_ldc (pc := 27) (n := -1000001) kX7_66 dX7_jack_27 ?_
        refine q_ri (pc := 29) dX7_jack_29 rfl ?_
        refine ⟨A, ?_, fun _ _ => rfl, hC⟩
        first | unfold s_hours | unfold s_perform | unfold s_board | unfold s_amount | unfold s_jack
        repeat' (first | rw [if_neg (by omega)] | rw [if_pos (by omega)] | rw [if_pos (by assumption)] | rw [if_neg (by assumption)])
  · refine q_ldc (pc := 10) (n := -1000002) kX7_137 dX7_jack_10 ?_
    refine q_ri (pc := 12) dX7_jack_12 rfl ?_
    refine ⟨A, ?_, fun _ _ => rfl, hC⟩
    first | unfold s_hours | unfold s_perform | unfold s_board | unfold s_amount | unfold s_jack
    repeat' (first | rw [if_neg (by omega)] | rw [if_pos (by omega)] | rw [if_pos (by assumption)] | rw [if_neg (by assumption)])
theorem x_undo (hC : CR σ A) (hV : AV A) : qE G mX7_undo (d + 3) 0 [(0, vr 0)] [] σ (ri (pC σ (s_undo A))) := by
  have hR := hV.1
  have eL := hC.2.1.2.1
  obtain ⟨f, as, B⟩ := A
  have eL : σ 44 2 = as.length := eL
  cases as with
  | nil =>
    have eL : σ 44 2 = 0 := eL
    refine q_aload_n (pc := 0) dX7_undo_0 rfl ?_
    refine q_getR (pc := 1) dX7_undo_1 fX7_40 rfl rfl ?_
    refine q_gI (pc := 4) 2 dX7_undo_4 fX7_134 rfl rfl rfl ?_
    refine q_ifne (pc := 7) (tgt := 13) dX7_undo_7 (by decide) (by omega) (fun h => absurd h (by omega)) (fun h7 => ?_)
    refine q_ldc (pc := 10) (n := -1000002) kX7_137 dX7_undo_10 ?_
    refine q_ri (pc := 12) dX7_undo_12 rfl ?_
    exact ⟨_, rfl, fun _ _ => rfl, hC⟩
  | cons g as =>
    have hl : (g :: as).length ≤ 24 := hC.2.1.2.2.1
    rw [List.length_cons] at eL hl
    refine q_aload_n (pc := 0) dX7_undo_0 rfl ?_
    refine q_getR (pc := 1) dX7_undo_1 fX7_40 rfl rfl ?_
    refine q_gI (pc := 4) 2 dX7_undo_4 fX7_134 rfl rfl rfl ?_
    refine q_ifne (pc := 7) (tgt := 13) dX7_undo_7 (by decide) (by omega) (fun h7 => ?_) (fun h => absurd h (by omega))
    refine q_aload_n (pc := 13) dX7_undo_13 rfl ?_
    refine q_getR (pc := 14) dX7_undo_14 fX7_40 rfl rfl ?_
    refine q_aload_n (pc := 17) dX7_undo_17 rfl ?_
    refine q_getR (pc := 18) dX7_undo_18 fX7_26 rfl rfl ?_
    refine q_V1v (pc := 21) dX7_undo_21 vX7_138 rfl rfl (Nat.le_of_ble_eq_true rfl) (Nat.le_of_ble_eq_true rfl) (t_X0_takeBack hC.1 hC.2.1 (hV.2.1.2.1 g (List.mem_cons_self ..)).2 hR.de.2) (fun σ1 hc1 => ?_)
    obtain ⟨hF1, hA1, hs1⟩ := hc1
    refine q_aload_n (pc := 24) dX7_undo_24 rfl ?_
    refine q_getR (pc := 25) dX7_undo_25 fX7_40 rfl rfl ?_
    refine q_gI (pc := 28) 2 dX7_undo_28 fX7_134 rfl rfl rfl ?_
    refine q_ri (pc := 31) dX7_undo_31 rfl ?_
    exact pC.go (fun j hj => hF1.c (by decide) j hj) (hC.site hF1 (si_in (by decide)) hs1 hA1) hA1.2.1.symm
end T7
