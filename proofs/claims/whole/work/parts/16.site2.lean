/-! ===== NightLevel$Site: copies, the draft, what acts keep ===== -/
section T4
variable {G : qGl} {d : Nat} {σ : qM} {f g : Int → Int}
theorem t_X4_copyFrom_15_22 (hf : SiR σ 22 f) (hz : f 0 = 0 ∨ f 0 = 1) (h7 : f 5 ≤ 7) : qE G mX4_copyFrom (d + 2) 0 [(0, vr 15), (1, vr 22)] [] σ (rv fun σ1 => Fr σ σ1 [15, 16, 17, 18, 20, 21] ∧ SiR σ1 15 f) := by
  obtain ⟨⟨e0, e4, e5, e6⟩, e1, hS, hde⟩ := id hf
  have hF : ∀ {σ1 : qM}, Fr σ σ1 [15, 16, 17, 18] → StR σ1 26 f := fun h => StR.fr (k := 26) hS h (by decide) (by decide)
  refine q_aload_n (pc := 0) dX4_copyFrom_0 rfl ?_
  refine q_aload_n (pc := 1) dX4_copyFrom_1 rfl ?_
  refine q_gI (pc := 2) 0 dX4_copyFrom_2 fX4_32 rfl rfl rfl ?_
  refine q_pZ (pc := 5) 0 dX4_copyFrom_5 wX4_32 rfl rfl rfl (by first | exact bi_01 _ | omega) ?_
  refine q_aload_n (pc := 8) dX4_copyFrom_8 rfl ?_
  refine q_aload_n (pc := 9) dX4_copyFrom_9 rfl ?_
  refine q_gI (pc := 10) 1 dX4_copyFrom_10 fX4_45 rfl rfl rfl ?_
  refine q_pI (pc := 13) 1 dX4_copyFrom_13 wX4_45 rfl rfl rfl ?_
  refine q_aload_n (pc := 16) dX4_copyFrom_16 rfl ?_
  refine q_aload_n (pc := 17) dX4_copyFrom_17 rfl ?_
  refine q_gI (pc := 18) 2 dX4_copyFrom_18 fX4_48 rfl rfl rfl ?_
  refine q_pI (pc := 21) 2 dX4_copyFrom_21 wX4_48 rfl rfl rfl ?_
  refine q_aload_n (pc := 24) dX4_copyFrom_24 rfl ?_
  refine q_aload_n (pc := 25) dX4_copyFrom_25 rfl ?_
  refine q_gI (pc := 26) 3 dX4_copyFrom_26 fX4_9 rfl rfl rfl ?_
  refine q_pI (pc := 29) 3 dX4_copyFrom_29 wX4_9 rfl rfl rfl ?_
  refine q_aload_n (pc := 32) dX4_copyFrom_32 rfl ?_
  refine q_aload_n (pc := 33) dX4_copyFrom_33 rfl ?_
  refine q_gI (pc := 34) 4 dX4_copyFrom_34 fX4_36 rfl rfl rfl ?_
  refine q_pI (pc := 37) 4 dX4_copyFrom_37 wX4_36 rfl rfl rfl ?_
  refine q_aload_n (pc := 40) dX4_copyFrom_40 rfl ?_
  refine q_aload_n (pc := 41) dX4_copyFrom_41 rfl ?_
  refine q_gI (pc := 42) 5 dX4_copyFrom_42 fX4_39 rfl rfl rfl ?_
  refine q_pI (pc := 45) 5 dX4_copyFrom_45 wX4_39 rfl rfl rfl ?_
  refine q_aload_n (pc := 48) dX4_copyFrom_48 rfl ?_
  refine q_aload_n (pc := 49) dX4_copyFrom_49 rfl ?_
  refine q_gI (pc := 50) 6 dX4_copyFrom_50 fX4_42 rfl rfl rfl ?_
  refine q_pI (pc := 53) 6 dX4_copyFrom_53 wX4_42 rfl rfl rfl ?_
  refine q_aload_n (pc := 56) dX4_copyFrom_56 rfl ?_
  refine q_getR (pc := 57) dX4_copyFrom_57 fX4_15 rfl rfl ?_
  refine q_iconst (pc := 60) dX4_copyFrom_60 ?_
  refine q_aload_n (pc := 61) dX4_copyFrom_61 rfl ?_
  refine q_getR (pc := 62) dX4_copyFrom_62 fX4_15 rfl rfl ?_
  refine q_iconst (pc := 65) dX4_copyFrom_65 ?_
  refine q_bipush (pc := 66) dX4_copyFrom_66 (by decide +kernel) ?_
  refine q_copy (pc := 68) dX4_copyFrom_68 vX4_51 v_cp1 v_cp2 v_is rfl rfl (by omega) (by omega) (by omega) (by omega) (by omega) (Nat.le_of_ble_eq_true rfl) (by omega) ?_
  refine q_aload_n (pc := 71) dX4_copyFrom_71 rfl ?_
  refine q_getR (pc := 72) dX4_copyFrom_72 fX4_19 rfl rfl ?_
  refine q_iconst (pc := 75) dX4_copyFrom_75 ?_
  refine q_aload_n (pc := 76) dX4_copyFrom_76 rfl ?_
  refine q_getR (pc := 77) dX4_copyFrom_77 fX4_19 rfl rfl ?_
  refine q_iconst (pc := 80) dX4_copyFrom_80 ?_
  refine q_bipush (pc := 81) dX4_copyFrom_81 (by decide +kernel) ?_
  refine q_copy (pc := 83) dX4_copyFrom_83 vX4_51 v_cp1 v_cp2 v_is rfl rfl (by omega) (by omega) (by omega) (by omega) (by omega) (Nat.le_of_ble_eq_true rfl) (by omega) ?_
  refine q_aload_n (pc := 86) dX4_copyFrom_86 rfl ?_
  refine q_getR (pc := 87) dX4_copyFrom_87 fX4_22 rfl rfl ?_
  refine q_iconst (pc := 90) dX4_copyFrom_90 ?_
  refine q_aload_n (pc := 91) dX4_copyFrom_91 rfl ?_
  refine q_getR (pc := 92) dX4_copyFrom_92 fX4_22 rfl rfl ?_
  refine q_iconst (pc := 95) dX4_copyFrom_95 ?_
  refine q_bipush (pc := 96) dX4_copyFrom_96 (by decide +kernel) ?_
  refine q_copy (pc := 98) dX4_copyFrom_98 vX4_51 v_cp1 v_cp2 v_is rfl rfl (by omega) (by omega) (by omega) (by omega) (by omega) (Nat.le_of_ble_eq_true rfl) (by omega) ?_
  refine q_aload_n (pc := 101) dX4_copyFrom_101 rfl ?_
  refine q_getR (pc := 102) dX4_copyFrom_102 fX4_28 rfl rfl ?_
  refine q_aload_n (pc := 105) dX4_copyFrom_105 rfl ?_
  refine q_getR (pc := 106) dX4_copyFrom_106 fX4_28 rfl rfl ?_
  refine q_V1v (pc := 109) dX4_copyFrom_109 vX4_57 rfl rfl (Nat.le_of_ble_eq_true rfl) (Nat.le_of_ble_eq_true rfl) (t_X5_copyFrom (k := 19) (k' := 26) (f := f) (by unfold qSt; decide) (by unfold qSt; decide) (hF (by repeat' first | exact Fr.rf | refine Fr.tt ?_ (Fr.put (by decide)) | refine Fr.tt ?_ (Fr.up (by decide))))) (fun σ1 hc1 => ?_)
  obtain ⟨hF1, hS1⟩ := hc1
  refine q_rv (pc := 112) dX4_copyFrom_112 rfl ?_
  have z : ∀ (j : Nat) (i : Int), j ≠ 20 → j ≠ 21 → σ1 j i = _ := fun j i h1 h2 => congrFun (hF1 j (by simp [h1, h2])) i
  refine ⟨Fr.tt (S := [15, 16, 17, 18, 20, 21]) (Fr.wk (S := [15, 16, 17, 18]) (by repeat' first | exact Fr.rf | refine Fr.tt ?_ (Fr.put (by decide)) | refine Fr.tt ?_ (Fr.up (by decide))) (by decide)) (hF1.wk (by decide)), ⟨?_, ?_, ?_, ?_⟩, ?_, hS1, ?_⟩
  · rw [z 15 0 (by decide) (by decide)]; simp [up, put, e0]
  · rw [z 15 4 (by decide) (by decide)]; simp [up, put, e4]
  · rw [z 15 5 (by decide) (by decide)]; simp [up, put, e5]
  · rw [z 15 6 (by decide) (by decide)]; simp [up, put, e6]
  · intro h1
    obtain ⟨x1, x2, x3⟩ := e1 h1
    rw [z 15 1 (by decide) (by decide), z 15 2 (by decide) (by decide), z 15 3 (by decide) (by decide)]
    simp [up, put, x1, x2, x3]
  · intro i h0 h5
    have hi7 : i < 7 := by omega
    rw [z (15 + 1) i (by decide) (by decide), z (15 + 2) i (by decide) (by decide), z (15 + 3) i (by decide) (by decide)]
    have x := hde i h0 h5
    simp only [Nat.reduceAdd] at x ⊢
    simp [up, put, qcpy, h0, hi7, x]
theorem t_X4_copyFrom_15_30 (hf : SiR σ 30 f) (hz : f 0 = 0 ∨ f 0 = 1) (h7 : f 5 ≤ 7) : qE G mX4_copyFrom (d + 2) 0 [(0, vr 15), (1, vr 30)] [] σ (rv fun σ1 => Fr σ σ1 [15, 16, 17, 18, 20, 21] ∧ SiR σ1 15 f) := by
  obtain ⟨⟨e0, e4, e5, e6⟩, e1, hS, hde⟩ := id hf
  have hF : ∀ {σ1 : qM}, Fr σ σ1 [15, 16, 17, 18] → StR σ1 34 f := fun h => StR.fr (k := 34) hS h (by decide) (by decide)
  refine q_aload_n (pc := 0) dX4_copyFrom_0 rfl ?_
  refine q_aload_n (pc := 1) dX4_copyFrom_1 rfl ?_
  refine q_gI (pc := 2) 0 dX4_copyFrom_2 fX4_32 rfl rfl rfl ?_
  refine q_pZ (pc := 5) 0 dX4_copyFrom_5 wX4_32 rfl rfl rfl (by first | exact bi_01 _ | omega) ?_
  refine q_aload_n (pc := 8) dX4_copyFrom_8 rfl ?_
  refine q_aload_n (pc := 9) dX4_copyFrom_9 rfl ?_
  refine q_gI (pc := 10) 1 dX4_copyFrom_10 fX4_45 rfl rfl rfl ?_
  refine q_pI (pc := 13) 1 dX4_copyFrom_13 wX4_45 rfl rfl rfl ?_
  refine q_aload_n (pc := 16) dX4_copyFrom_16 rfl ?_
  refine q_aload_n (pc := 17) dX4_copyFrom_17 rfl ?_
  refine q_gI (pc := 18) 2 dX4_copyFrom_18 fX4_48 rfl rfl rfl ?_
  refine q_pI (pc := 21) 2 dX4_copyFrom_21 wX4_48 rfl rfl rfl ?_
  refine q_aload_n (pc := 24) dX4_copyFrom_24 rfl ?_
  refine q_aload_n (pc := 25) dX4_copyFrom_25 rfl ?_
  refine q_gI (pc := 26) 3 dX4_copyFrom_26 fX4_9 rfl rfl rfl ?_
  refine q_pI (pc := 29) 3 dX4_copyFrom_29 wX4_9 rfl rfl rfl ?_
  refine q_aload_n (pc := 32) dX4_copyFrom_32 rfl ?_
  refine q_aload_n (pc := 33) dX4_copyFrom_33 rfl ?_
  refine q_gI (pc := 34) 4 dX4_copyFrom_34 fX4_36 rfl rfl rfl ?_
  refine q_pI (pc := 37) 4 dX4_copyFrom_37 wX4_36 rfl rfl rfl ?_
  refine q_aload_n (pc := 40) dX4_copyFrom_40 rfl ?_
  refine q_aload_n (pc := 41) dX4_copyFrom_41 rfl ?_
  refine q_gI (pc := 42) 5 dX4_copyFrom_42 fX4_39 rfl rfl rfl ?_
  refine q_pI (pc := 45) 5 dX4_copyFrom_45 wX4_39 rfl rfl rfl ?_
  refine q_aload_n (pc := 48) dX4_copyFrom_48 rfl ?_
  refine q_aload_n (pc := 49) dX4_copyFrom_49 rfl ?_
  refine q_gI (pc := 50) 6 dX4_copyFrom_50 fX4_42 rfl rfl rfl ?_
  refine q_pI (pc := 53) 6 dX4_copyFrom_53 wX4_42 rfl rfl rfl ?_
  refine q_aload_n (pc := 56) dX4_copyFrom_56 rfl ?_
  refine q_getR (pc := 57) dX4_copyFrom_57 fX4_15 rfl rfl ?_
  refine q_iconst (pc := 60) dX4_copyFrom_60 ?_
  refine q_aload_n (pc := 61) dX4_copyFrom_61 rfl ?_
  refine q_getR (pc := 62) dX4_copyFrom_62 fX4_15 rfl rfl ?_
  refine q_iconst (pc := 65) dX4_copyFrom_65 ?_
  refine q_bipush (pc := 66) dX4_copyFrom_66 (by decide +kernel) ?_
  refine q_copy (pc := 68) dX4_copyFrom_68 vX4_51 v_cp1 v_cp2 v_is rfl rfl (by omega) (by omega) (by omega) (by omega) (by omega) (Nat.le_of_ble_eq_true rfl) (by omega) ?_
  refine q_aload_n (pc := 71) dX4_copyFrom_71 rfl ?_
  refine q_getR (pc := 72) dX4_copyFrom_72 fX4_19 rfl rfl ?_
  refine q_iconst (pc := 75) dX4_copyFrom_75 ?_
  refine q_aload_n (pc := 76) dX4_copyFrom_76 rfl ?_
  refine q_getR (pc := 77) dX4_copyFrom_77 fX4_19 rfl rfl ?_
  refine q_iconst (pc := 80) dX4_copyFrom_80 ?_
  refine q_bipush (pc := 81) dX4_copyFrom_81 (by decide +kernel) ?_
  refine q_copy (pc := 83) dX4_copyFrom_83 vX4_51 v_cp1 v_cp2 v_is rfl rfl (by omega) (by omega) (by omega) (by omega) (by omega) (Nat.le_of_ble_eq_true rfl) (by omega) ?_
  refine q_aload_n (pc := 86) dX4_copyFrom_86 rfl ?_
  refine q_getR (pc := 87) dX4_copyFrom_87 fX4_22 rfl rfl ?_
  refine q_iconst (pc := 90) dX4_copyFrom_90 ?_
  refine q_aload_n (pc := 91) dX4_copyFrom_91 rfl ?_
  refine q_getR (pc := 92) dX4_copyFrom_92 fX4_22 rfl rfl ?_
  refine q_iconst (pc := 95) dX4_copyFrom_95 ?_
  refine q_bipush (pc := 96) dX4_copyFrom_96 (by decide +kernel) ?_
  refine q_copy (pc := 98) dX4_copyFrom_98 vX4_51 v_cp1 v_cp2 v_is rfl rfl (by omega) (by omega) (by omega) (by omega) (by omega) (Nat.le_of_ble_eq_true rfl) (by omega) ?_
  refine q_aload_n (pc := 101) dX4_copyFrom_101 rfl ?_
  refine q_getR (pc := 102) dX4_copyFrom_102 fX4_28 rfl rfl ?_
  refine q_aload_n (pc := 105) dX4_copyFrom_105 rfl ?_
  refine q_getR (pc := 106) dX4_copyFrom_106 fX4_28 rfl rfl ?_
  refine q_V1v (pc := 109) dX4_copyFrom_109 vX4_57 rfl rfl (Nat.le_of_ble_eq_true rfl) (Nat.le_of_ble_eq_true rfl) (t_X5_copyFrom (k := 19) (k' := 34) (f := f) (by unfold qSt; decide) (by unfold qSt; decide) (hF (by repeat' first | exact Fr.rf | refine Fr.tt ?_ (Fr.put (by decide)) | refine Fr.tt ?_ (Fr.up (by decide))))) (fun σ1 hc1 => ?_)
  obtain ⟨hF1, hS1⟩ := hc1
  refine q_rv (pc := 112) dX4_copyFrom_112 rfl ?_
  have z : ∀ (j : Nat) (i : Int), j ≠ 20 → j ≠ 21 → σ1 j i = _ := fun j i h1 h2 => congrFun (hF1 j (by simp [h1, h2])) i
  refine ⟨Fr.tt (S := [15, 16, 17, 18, 20, 21]) (Fr.wk (S := [15, 16, 17, 18]) (by repeat' first | exact Fr.rf | refine Fr.tt ?_ (Fr.put (by decide)) | refine Fr.tt ?_ (Fr.up (by decide))) (by decide)) (hF1.wk (by decide)), ⟨?_, ?_, ?_, ?_⟩, ?_, hS1, ?_⟩
  · rw [z 15 0 (by decide) (by decide)]; simp [up, put, e0]
  · rw [z 15 4 (by decide) (by decide)]; simp [up, put, e4]
  · rw [z 15 5 (by decide) (by decide)]; simp [up, put, e5]
  · rw [z 15 6 (by decide) (by decide)]; simp [up, put, e6]
  · intro h1
    obtain ⟨x1, x2, x3⟩ := e1 h1
    rw [z 15 1 (by decide) (by decide), z 15 2 (by decide) (by decide), z 15 3 (by decide) (by decide)]
    simp [up, put, x1, x2, x3]
  · intro i h0 h5
    have hi7 : i < 7 := by omega
    rw [z (15 + 1) i (by decide) (by decide), z (15 + 2) i (by decide) (by decide), z (15 + 3) i (by decide) (by decide)]
    have x := hde i h0 h5
    simp only [Nat.reduceAdd] at x ⊢
    simp [up, put, qcpy, h0, hi7, x]
theorem t_X4_copyFrom_15_37 (hf : SiR σ 37 f) (hz : f 0 = 0 ∨ f 0 = 1) (h7 : f 5 ≤ 7) : qE G mX4_copyFrom (d + 2) 0 [(0, vr 15), (1, vr 37)] [] σ (rv fun σ1 => Fr σ σ1 [15, 16, 17, 18, 20, 21] ∧ SiR σ1 15 f) := by
  obtain ⟨⟨e0, e4, e5, e6⟩, e1, hS, hde⟩ := id hf
  have hF : ∀ {σ1 : qM}, Fr σ σ1 [15, 16, 17, 18] → StR σ1 41 f := fun h => StR.fr (k := 41) hS h (by decide) (by decide)
  refine q_aload_n (pc := 0) dX4_copyFrom_0 rfl ?_
  refine q_aload_n (pc := 1) dX4_copyFrom_1 rfl ?_
  refine q_gI (pc := 2) 0 dX4_copyFrom_2 fX4_32 rfl rfl rfl ?_
  refine q_pZ (pc := 5) 0 dX4_copyFrom_5 wX4_32 rfl rfl rfl (by first | exact bi_01 _ | omega) ?_
  refine q_aload_n (pc := 8) dX4_copyFrom_8 rfl ?_
  refine q_aload_n (pc := 9) dX4_copyFrom_9 rfl ?_
  refine q_gI (pc := 10) 1 dX4_copyFrom_10 fX4_45 rfl rfl rfl ?_
  refine q_pI (pc := 13) 1 dX4_copyFrom_13 wX4_45 rfl rfl rfl ?_
  refine q_aload_n (pc := 16) dX4_copyFrom_16 rfl ?_
  refine q_aload_n (pc := 17) dX4_copyFrom_17 rfl ?_
  refine q_gI (pc := 18) 2 dX4_copyFrom_18 fX4_48 rfl rfl rfl ?_
  refine q_pI (pc := 21) 2 dX4_copyFrom_21 wX4_48 rfl rfl rfl ?_
  refine q_aload_n (pc := 24) dX4_copyFrom_24 rfl ?_
  refine q_aload_n (pc := 25) dX4_copyFrom_25 rfl ?_
  refine q_gI (pc := 26) 3 dX4_copyFrom_26 fX4_9 rfl rfl rfl ?_
  refine q_pI (pc := 29) 3 dX4_copyFrom_29 wX4_9 rfl rfl rfl ?_
  refine q_aload_n (pc := 32) dX4_copyFrom_32 rfl ?_
  refine q_aload_n (pc := 33) dX4_copyFrom_33 rfl ?_
  refine q_gI (pc := 34) 4 dX4_copyFrom_34 fX4_36 rfl rfl rfl ?_
  refine q_pI (pc := 37) 4 dX4_copyFrom_37 wX4_36 rfl rfl rfl ?_
  refine q_aload_n (pc := 40) dX4_copyFrom_40 rfl ?_
  refine q_aload_n (pc := 41) dX4_copyFrom_41 rfl ?_
  refine q_gI (pc := 42) 5 dX4_copyFrom_42 fX4_39 rfl rfl rfl ?_
  refine q_pI (pc := 45) 5 dX4_copyFrom_45 wX4_39 rfl rfl rfl ?_
  refine q_aload_n (pc := 48) dX4_copyFrom_48 rfl ?_
  refine q_aload_n (pc := 49) dX4_copyFrom_49 rfl ?_
  refine q_gI (pc := 50) 6 dX4_copyFrom_50 fX4_42 rfl rfl rfl ?_
  refine q_pI (pc := 53) 6 dX4_copyFrom_53 wX4_42 rfl rfl rfl ?_
  refine q_aload_n (pc := 56) dX4_copyFrom_56 rfl ?_
  refine q_getR (pc := 57) dX4_copyFrom_57 fX4_15 rfl rfl ?_
  refine q_iconst (pc := 60) dX4_copyFrom_60 ?_
  refine q_aload_n (pc := 61) dX4_copyFrom_61 rfl ?_
  refine q_getR (pc := 62) dX4_copyFrom_62 fX4_15 rfl rfl ?_
  refine q_iconst (pc := 65) dX4_copyFrom_65 ?_
  refine q_bipush (pc := 66) dX4_copyFrom_66 (by decide +kernel) ?_
  refine q_copy (pc := 68) dX4_copyFrom_68 vX4_51 v_cp1 v_cp2 v_is rfl rfl (by omega) (by omega) (by omega) (by omega) (by omega) (Nat.le_of_ble_eq_true rfl) (by omega) ?_
  refine q_aload_n (pc := 71) dX4_copyFrom_71 rfl ?_
  refine q_getR (pc := 72) dX4_copyFrom_72 fX4_19 rfl rfl ?_
  refine q_iconst (pc := 75) dX4_copyFrom_75 ?_
  refine q_aload_n (pc := 76) dX4_copyFrom_76 rfl ?_
  refine q_getR (pc := 77) dX4_copyFrom_77 fX4_19 rfl rfl ?_
  refine q_iconst (pc := 80) dX4_copyFrom_80 ?_
  refine q_bipush (pc := 81) dX4_copyFrom_81 (by decide +kernel) ?_
  refine q_copy (pc := 83) dX4_copyFrom_83 vX4_51 v_cp1 v_cp2 v_is rfl rfl (by omega) (by omega) (by omega) (by omega) (by omega) (Nat.le_of_ble_eq_true rfl) (by omega) ?_
  refine q_aload_n (pc := 86) dX4_copyFrom_86 rfl ?_
  refine q_getR (pc := 87) dX4_copyFrom_87 fX4_22 rfl rfl ?_
  refine q_iconst (pc := 90) dX4_copyFrom_90 ?_
  refine q_aload_n (pc := 91) dX4_copyFrom_91 rfl ?_
  refine q_getR (pc := 92) dX4_copyFrom_92 fX4_22 rfl rfl ?_
  refine q_iconst (pc := 95) dX4_copyFrom_95 ?_
  refine q_bipush (pc := 96) dX4_copyFrom_96 (by decide +kernel) ?_
  refine q_copy (pc := 98) dX4_copyFrom_98 vX4_51 v_cp1 v_cp2 v_is rfl rfl (by omega) (by omega) (by omega) (by omega) (by omega) (Nat.le_of_ble_eq_true rfl) (by omega) ?_
  refine q_aload_n (pc := 101) dX4_copyFrom_101 rfl ?_
  refine q_getR (pc := 102) dX4_copyFrom_102 fX4_28 rfl rfl ?_
  refine q_aload_n (pc := 105) dX4_copyFrom_105 rfl ?_
  refine q_getR (pc := 106) dX4_copyFrom_106 fX4_28 rfl rfl ?_
  refine q_V1v (pc := 109) dX4_copyFrom_109 vX4_57 rfl rfl (Nat.le_of_ble_eq_true rfl) (Nat.le_of_ble_eq_true rfl) (t_X5_copyFrom (k := 19) (k' := 41) (f := f) (by unfold qSt; decide) (by unfold qSt; decide) (hF (by repeat' first | exact Fr.rf | refine Fr.tt ?_ (Fr.put (by decide)) | refine Fr.tt ?_ (Fr.up (by decide))))) (fun σ1 hc1 => ?_)
  obtain ⟨hF1, hS1⟩ := hc1
  refine q_rv (pc := 112) dX4_copyFrom_112 rfl ?_
  have z : ∀ (j : Nat) (i : Int), j ≠ 20 → j ≠ 21 → σ1 j i = _ := fun j i h1 h2 => congrFun (hF1 j (by simp [h1, h2])) i
  refine ⟨Fr.tt (S := [15, 16, 17, 18, 20, 21]) (Fr.wk (S := [15, 16, 17, 18]) (by repeat' first | exact Fr.rf | refine Fr.tt ?_ (Fr.put (by decide)) | refine Fr.tt ?_ (Fr.up (by decide))) (by decide)) (hF1.wk (by decide)), ⟨?_, ?_, ?_, ?_⟩, ?_, hS1, ?_⟩
  · rw [z 15 0 (by decide) (by decide)]; simp [up, put, e0]
  · rw [z 15 4 (by decide) (by decide)]; simp [up, put, e4]
  · rw [z 15 5 (by decide) (by decide)]; simp [up, put, e5]
  · rw [z 15 6 (by decide) (by decide)]; simp [up, put, e6]
  · intro h1
    obtain ⟨x1, x2, x3⟩ := e1 h1
    rw [z 15 1 (by decide) (by decide), z 15 2 (by decide) (by decide), z 15 3 (by decide) (by decide)]
    simp [up, put, x1, x2, x3]
  · intro i h0 h5
    have hi7 : i < 7 := by omega
    rw [z (15 + 1) i (by decide) (by decide), z (15 + 2) i (by decide) (by decide), z (15 + 3) i (by decide) (by decide)]
    have x := hde i h0 h5
    simp only [Nat.reduceAdd] at x ⊢
    simp [up, put, qcpy, h0, hi7, x]
theorem t_X4_copyFrom_30_15 (hf : SiR σ 15 f) (hz : f 0 = 0 ∨ f 0 = 1) (h7 : f 5 ≤ 7) : qE G mX4_copyFrom (d + 2) 0 [(0, vr 30), (1, vr 15)] [] σ (rv fun σ1 => Fr σ σ1 [30, 31, 32, 33, 35, 36] ∧ SiR σ1 30 f) := by
  obtain ⟨⟨e0, e4, e5, e6⟩, e1, hS, hde⟩ := id hf
  have hF : ∀ {σ1 : qM}, Fr σ σ1 [30, 31, 32, 33] → StR σ1 19 f := fun h => StR.fr (k := 19) hS h (by decide) (by decide)
  refine q_aload_n (pc := 0) dX4_copyFrom_0 rfl ?_
  refine q_aload_n (pc := 1) dX4_copyFrom_1 rfl ?_
  refine q_gI (pc := 2) 0 dX4_copyFrom_2 fX4_32 rfl rfl rfl ?_
  refine q_pZ (pc := 5) 0 dX4_copyFrom_5 wX4_32 rfl rfl rfl (by first | exact bi_01 _ | omega) ?_
  refine q_aload_n (pc := 8) dX4_copyFrom_8 rfl ?_
  refine q_aload_n (pc := 9) dX4_copyFrom_9 rfl ?_
  refine q_gI (pc := 10) 1 dX4_copyFrom_10 fX4_45 rfl rfl rfl ?_
  refine q_pI (pc := 13) 1 dX4_copyFrom_13 wX4_45 rfl rfl rfl ?_
  refine q_aload_n (pc := 16) dX4_copyFrom_16 rfl ?_
  refine q_aload_n (pc := 17) dX4_copyFrom_17 rfl ?_
  refine q_gI (pc := 18) 2 dX4_copyFrom_18 fX4_48 rfl rfl rfl ?_
  refine q_pI (pc := 21) 2 dX4_copyFrom_21 wX4_48 rfl rfl rfl ?_
  refine q_aload_n (pc := 24) dX4_copyFrom_24 rfl ?_
  refine q_aload_n (pc := 25) dX4_copyFrom_25 rfl ?_
  refine q_gI (pc := 26) 3 dX4_copyFrom_26 fX4_9 rfl rfl rfl ?_
  refine q_pI (pc := 29) 3 dX4_copyFrom_29 wX4_9 rfl rfl rfl ?_
  refine q_aload_n (pc := 32) dX4_copyFrom_32 rfl ?_
  refine q_aload_n (pc := 33) dX4_copyFrom_33 rfl ?_
  refine q_gI (pc := 34) 4 dX4_copyFrom_34 fX4_36 rfl rfl rfl ?_
  refine q_pI (pc := 37) 4 dX4_copyFrom_37 wX4_36 rfl rfl rfl ?_
  refine q_aload_n (pc := 40) dX4_copyFrom_40 rfl ?_
  refine q_aload_n (pc := 41) dX4_copyFrom_41 rfl ?_
  refine q_gI (pc := 42) 5 dX4_copyFrom_42 fX4_39 rfl rfl rfl ?_
  refine q_pI (pc := 45) 5 dX4_copyFrom_45 wX4_39 rfl rfl rfl ?_
  refine q_aload_n (pc := 48) dX4_copyFrom_48 rfl ?_
  refine q_aload_n (pc := 49) dX4_copyFrom_49 rfl ?_
  refine q_gI (pc := 50) 6 dX4_copyFrom_50 fX4_42 rfl rfl rfl ?_
  refine q_pI (pc := 53) 6 dX4_copyFrom_53 wX4_42 rfl rfl rfl ?_
  refine q_aload_n (pc := 56) dX4_copyFrom_56 rfl ?_
  refine q_getR (pc := 57) dX4_copyFrom_57 fX4_15 rfl rfl ?_
  refine q_iconst (pc := 60) dX4_copyFrom_60 ?_
  refine q_aload_n (pc := 61) dX4_copyFrom_61 rfl ?_
  refine q_getR (pc := 62) dX4_copyFrom_62 fX4_15 rfl rfl ?_
  refine q_iconst (pc := 65) dX4_copyFrom_65 ?_
  refine q_bipush (pc := 66) dX4_copyFrom_66 (by decide +kernel) ?_
  refine q_copy (pc := 68) dX4_copyFrom_68 vX4_51 v_cp1 v_cp2 v_is rfl rfl (by omega) (by omega) (by omega) (by omega) (by omega) (Nat.le_of_ble_eq_true rfl) (by omega) ?_
  refine q_aload_n (pc := 71) dX4_copyFrom_71 rfl ?_
  refine q_getR (pc := 72) dX4_copyFrom_72 fX4_19 rfl rfl ?_
  refine q_iconst (pc := 75) dX4_copyFrom_75 ?_
  refine q_aload_n (pc := 76) dX4_copyFrom_76 rfl ?_
  refine q_getR (pc := 77) dX4_copyFrom_77 fX4_19 rfl rfl ?_
  refine q_iconst (pc := 80) dX4_copyFrom_80 ?_
  refine q_bipush (pc := 81) dX4_copyFrom_81 (by decide +kernel) ?_
  refine q_copy (pc := 83) dX4_copyFrom_83 vX4_51 v_cp1 v_cp2 v_is rfl rfl (by omega) (by omega) (by omega) (by omega) (by omega) (Nat.le_of_ble_eq_true rfl) (by omega) ?_
  refine q_aload_n (pc := 86) dX4_copyFrom_86 rfl ?_
  refine q_getR (pc := 87) dX4_copyFrom_87 fX4_22 rfl rfl ?_
  refine q_iconst (pc := 90) dX4_copyFrom_90 ?_
  refine q_aload_n (pc := 91) dX4_copyFrom_91 rfl ?_
  refine q_getR (pc := 92) dX4_copyFrom_92 fX4_22 rfl rfl ?_
  refine q_iconst (pc := 95) dX4_copyFrom_95 ?_
  refine q_bipush (pc := 96) dX4_copyFrom_96 (by decide +kernel) ?_
  refine q_copy (pc := 98) dX4_copyFrom_98 vX4_51 v_cp1 v_cp2 v_is rfl rfl (by omega) (by omega) (by omega) (by omega) (by omega) (Nat.le_of_ble_eq_true rfl) (by omega) ?_
  refine q_aload_n (pc := 101) dX4_copyFrom_101 rfl ?_
  refine q_getR (pc := 102) dX4_copyFrom_102 fX4_28 rfl rfl ?_
  refine q_aload_n (pc := 105) dX4_copyFrom_105 rfl ?_
  refine q_getR (pc := 106) dX4_copyFrom_106 fX4_28 rfl rfl ?_
  refine q_V1v (pc := 109) dX4_copyFrom_109 vX4_57 rfl rfl (Nat.le_of_ble_eq_true rfl) (Nat.le_of_ble_eq_true rfl) (t_X5_copyFrom (k := 34) (k' := 19) (f := f) (by unfold qSt; decide) (by unfold qSt; decide) (hF (by repeat' first | exact Fr.rf | refine Fr.tt ?_ (Fr.put (by decide)) | refine Fr.tt ?_ (Fr.up (by decide))))) (fun σ1 hc1 => ?_)
  obtain ⟨hF1, hS1⟩ := hc1
  refine q_rv (pc := 112) dX4_copyFrom_112 rfl ?_
  have z : ∀ (j : Nat) (i : Int), j ≠ 35 → j ≠ 36 → σ1 j i = _ := fun j i h1 h2 => congrFun (hF1 j (by simp [h1, h2])) i
  refine ⟨Fr.tt (S := [30, 31, 32, 33, 35, 36]) (Fr.wk (S := [30, 31, 32, 33]) (by repeat' first | exact Fr.rf | refine Fr.tt ?_ (Fr.put (by decide)) | refine Fr.tt ?_ (Fr.up (by decide))) (by decide)) (hF1.wk (by decide)), ⟨?_, ?_, ?_, ?_⟩, ?_, hS1, ?_⟩
  · rw [z 30 0 (by decide) (by decide)]; simp [up, put, e0]
  · rw [z 30 4 (by decide) (by decide)]; simp [up, put, e4]
  · rw [z 30 5 (by decide) (by decide)]; simp [up, put, e5]
  · rw [z 30 6 (by decide) (by decide)]; simp [up, put, e6]
  · intro h1
    obtain ⟨x1, x2, x3⟩ := e1 h1
    rw [z 30 1 (by decide) (by decide), z 30 2 (by decide) (by decide), z 30 3 (by decide) (by decide)]
    simp [up, put, x1, x2, x3]
  · intro i h0 h5
    have hi7 : i < 7 := by omega
    rw [z (30 + 1) i (by decide) (by decide), z (30 + 2) i (by decide) (by decide), z (30 + 3) i (by decide) (by decide)]
    have x := hde i h0 h5
    simp only [Nat.reduceAdd] at x ⊢
    simp [up, put, qcpy, h0, hi7, x]
theorem t_X4_copyFrom_37_15 (hf : SiR σ 15 f) (hz : f 0 = 0 ∨ f 0 = 1) (h7 : f 5 ≤ 7) : qE G mX4_copyFrom (d + 2) 0 [(0, vr 37), (1, vr 15)] [] σ (rv fun σ1 => Fr σ σ1 [37, 38, 39, 40, 42, 43] ∧ SiR σ1 37 f) := by
  obtain ⟨⟨e0, e4, e5, e6⟩, e1, hS, hde⟩ := id hf
  have hF : ∀ {σ1 : qM}, Fr σ σ1 [37, 38, 39, 40] → StR σ1 19 f := fun h => StR.fr (k := 19) hS h (by decide) (by decide)
  refine q_aload_n (pc := 0) dX4_copyFrom_0 rfl ?_
  refine q_aload_n (pc := 1) dX4_copyFrom_1 rfl ?_
  refine q_gI (pc := 2) 0 dX4_copyFrom_2 fX4_32 rfl rfl rfl ?_
  refine q_pZ (pc := 5) 0 dX4_copyFrom_5 wX4_32 rfl rfl rfl (by first | exact bi_01 _ | omega) ?_
  refine q_aload_n (pc := 8) dX4_copyFrom_8 rfl ?_
  refine q_aload_n (pc := 9) dX4_copyFrom_9 rfl ?_
  refine q_gI (pc := 10) 1 dX4_copyFrom_10 fX4_45 rfl rfl rfl ?_
  refine q_pI (pc := 13) 1 dX4_copyFrom_13 wX4_45 rfl rfl rfl ?_
  refine q_aload_n (pc := 16) dX4_copyFrom_16 rfl ?_
  refine q_aload_n (pc := 17) dX4_copyFrom_17 rfl ?_
  refine q_gI (pc := 18) 2 dX4_copyFrom_18 fX4_48 rfl rfl rfl ?_
  refine q_pI (pc := 21) 2 dX4_copyFrom_21 wX4_48 rfl rfl rfl ?_
  refine q_aload_n (pc := 24) dX4_copyFrom_24 rfl ?_
  refine q_aload_n (pc := 25) dX4_copyFrom_25 rfl ?_
  refine q_gI (pc := 26) 3 dX4_copyFrom_26 fX4_9 rfl rfl rfl ?_
  refine q_pI (pc := 29) 3 dX4_copyFrom_29 wX4_9 rfl rfl rfl ?_
  refine q_aload_n (pc := 32) dX4_copyFrom_32 rfl ?_
  refine q_aload_n (pc := 33) dX4_copyFrom_33 rfl ?_
  refine q_gI (pc := 34) 4 dX4_copyFrom_34 fX4_36 rfl rfl rfl ?_
  refine q_pI (pc := 37) 4 dX4_copyFrom_37 wX4_36 rfl rfl rfl ?_
  refine q_aload_n (pc := 40) dX4_copyFrom_40 rfl ?_
  refine q_aload_n (pc := 41) dX4_copyFrom_41 rfl ?_
  refine q_gI (pc := 42) 5 dX4_copyFrom_42 fX4_39 rfl rfl rfl ?_
  refine q_pI (pc := 45) 5 dX4_copyFrom_45 wX4_39 rfl rfl rfl ?_
  refine q_aload_n (pc := 48) dX4_copyFrom_48 rfl ?_
  refine q_aload_n (pc := 49) dX4_copyFrom_49 rfl ?_
  refine q_gI (pc := 50) 6 dX4_copyFrom_50 fX4_42 rfl rfl rfl ?_
  refine q_pI (pc := 53) 6 dX4_copyFrom_53 wX4_42 rfl rfl rfl ?_
  refine q_aload_n (pc := 56) dX4_copyFrom_56 rfl ?_
  refine q_getR (pc := 57) dX4_copyFrom_57 fX4_15 rfl rfl ?_
  refine q_iconst (pc := 60) dX4_copyFrom_60 ?_
  refine q_aload_n (pc := 61) dX4_copyFrom_61 rfl ?_
  refine q_getR (pc := 62) dX4_copyFrom_62 fX4_15 rfl rfl ?_
  refine q_iconst (pc := 65) dX4_copyFrom_65 ?_
  refine q_bipush (pc := 66) dX4_copyFrom_66 (by decide +kernel) ?_
  refine q_copy (pc := 68) dX4_copyFrom_68 vX4_51 v_cp1 v_cp2 v_is rfl rfl (by omega) (by omega) (by omega) (by omega) (by omega) (Nat.le_of_ble_eq_true rfl) (by omega) ?_
  refine q_aload_n (pc := 71) dX4_copyFrom_71 rfl ?_
  refine q_getR (pc := 72) dX4_copyFrom_72 fX4_19 rfl rfl ?_
  refine q_iconst (pc := 75) dX4_copyFrom_75 ?_
  refine q_aload_n (pc := 76) dX4_copyFrom_76 rfl ?_
  refine q_getR (pc := 77) dX4_copyFrom_77 fX4_19 rfl rfl ?_
  refine q_iconst (pc := 80) dX4_copyFrom_80 ?_
  refine q_bipush (pc := 81) dX4_copyFrom_81 (by decide +kernel) ?_
  refine q_copy (pc := 83) dX4_copyFrom_83 vX4_51 v_cp1 v_cp2 v_is rfl rfl (by omega) (by omega) (by omega) (by omega) (by omega) (Nat.le_of_ble_eq_true rfl) (by omega) ?_
  refine q_aload_n (pc := 86) dX4_copyFrom_86 rfl ?_
  refine q_getR (pc := 87) dX4_copyFrom_87 fX4_22 rfl rfl ?_
  refine q_iconst (pc := 90) dX4_copyFrom_90 ?_
  refine q_aload_n (pc := 91) dX4_copyFrom_91 rfl ?_
  refine q_getR (pc := 92) dX4_copyFrom_92 fX4_22 rfl rfl ?_
  refine q_iconst (pc := 95) dX4_copyFrom_95 ?_
  refine q_bipush (pc := 96) dX4_copyFrom_96 (by decide +kernel) ?_
  refine q_copy (pc := 98) dX4_copyFrom_98 vX4_51 v_cp1 v_cp2 v_is rfl rfl (by omega) (by omega) (by omega) (by omega) (by omega) (Nat.le_of_ble_eq_true rfl) (by omega) ?_
  refine q_aload_n (pc := 101) dX4_copyFrom_101 rfl ?_
  refine q_getR (pc := 102) dX4_copyFrom_102 fX4_28 rfl rfl ?_
  refine q_aload_n (pc := 105) dX4_copyFrom_105 rfl ?_
  refine q_getR (pc := 106) dX4_copyFrom_106 fX4_28 rfl rfl ?_
  refine q_V1v (pc := 109) dX4_copyFrom_109 vX4_57 rfl rfl (Nat.le_of_ble_eq_true rfl) (Nat.le_of_ble_eq_true rfl) (t_X5_copyFrom (k := 41) (k' := 19) (f := f) (by unfold qSt; decide) (by unfold qSt; decide) (hF (by repeat' first | exact Fr.rf | refine Fr.tt ?_ (Fr.put (by decide)) | refine Fr.tt ?_ (Fr.up (by decide))))) (fun σ1 hc1 => ?_)
  obtain ⟨hF1, hS1⟩ := hc1
  refine q_rv (pc := 112) dX4_copyFrom_112 rfl ?_
  have z : ∀ (j : Nat) (i : Int), j ≠ 42 → j ≠ 43 → σ1 j i = _ := fun j i h1 h2 => congrFun (hF1 j (by simp [h1, h2])) i
  refine ⟨Fr.tt (S := [37, 38, 39, 40, 42, 43]) (Fr.wk (S := [37, 38, 39, 40]) (by repeat' first | exact Fr.rf | refine Fr.tt ?_ (Fr.put (by decide)) | refine Fr.tt ?_ (Fr.up (by decide))) (by decide)) (hF1.wk (by decide)), ⟨?_, ?_, ?_, ?_⟩, ?_, hS1, ?_⟩
  · rw [z 37 0 (by decide) (by decide)]; simp [up, put, e0]
  · rw [z 37 4 (by decide) (by decide)]; simp [up, put, e4]
  · rw [z 37 5 (by decide) (by decide)]; simp [up, put, e5]
  · rw [z 37 6 (by decide) (by decide)]; simp [up, put, e6]
  · intro h1
    obtain ⟨x1, x2, x3⟩ := e1 h1
    rw [z 37 1 (by decide) (by decide), z 37 2 (by decide) (by decide), z 37 3 (by decide) (by decide)]
    simp [up, put, x1, x2, x3]
  · intro i h0 h5
    have hi7 : i < 7 := by omega
    rw [z (37 + 1) i (by decide) (by decide), z (37 + 2) i (by decide) (by decide), z (37 + 3) i (by decide) (by decide)]
    have x := hde i h0 h5
    simp only [Nat.reduceAdd] at x ⊢
    simp [up, put, qcpy, h0, hi7, x]
theorem t_X4_clear : qE G mX4_clear d 0 [(0, vr 22)] [] σ (rv fun σ1 => σ1 = up (up (up (up σ 22 0 0) 22 4 0) 22 5 0) 22 6 0) := by
  refine q_aload_n (pc := 0) dX4_clear_0 rfl ?_
  refine q_iconst (pc := 1) dX4_clear_1 ?_
  refine q_pZ (pc := 2) 0 dX4_clear_2 wX4_32 rfl rfl rfl (by first | exact bi_01 _ | omega) ?_
  refine q_aload_n (pc := 5) dX4_clear_5 rfl ?_
  refine q_iconst (pc := 6) dX4_clear_6 ?_
  refine q_pI (pc := 7) 4 dX4_clear_7 wX4_36 rfl rfl rfl ?_
  refine q_aload_n (pc := 10) dX4_clear_10 rfl ?_
  refine q_iconst (pc := 11) dX4_clear_11 ?_
  refine q_pI (pc := 12) 5 dX4_clear_12 wX4_39 rfl rfl rfl ?_
  refine q_aload_n (pc := 15) dX4_clear_15 rfl ?_
  refine q_iconst (pc := 16) dX4_clear_16 ?_
  refine q_pI (pc := 17) 6 dX4_clear_17 wX4_42 rfl rfl rfl ?_
  refine q_rv (pc := 20) dX4_clear_20 rfl ?_
  rfl
theorem t_X4_addDeed {kd i a : Int} (h : 0 ≤ σ 22 5 ∧ σ 22 5 < 7) : qE G mX4_addDeed d 0 [(0, vr 22), (1, vi kd), (2, vi i), (3, vi a)] [] σ (rv fun σ1 => σ1 = up (up (up (up σ 23 (σ 22 5) kd) 24 (σ 22 5) i) 25 (σ 22 5) a) 22 5 (σ 22 5 + 1)) := by
  refine q_aload_n (pc := 0) dX4_addDeed_0 rfl ?_
  refine q_getR (pc := 1) dX4_addDeed_1 fX4_15 rfl rfl ?_
  refine q_aload_n (pc := 4) dX4_addDeed_4 rfl ?_
  refine q_gI (pc := 5) 5 dX4_addDeed_5 fX4_39 rfl rfl rfl ?_
  refine q_iload_n (pc := 8) dX4_addDeed_8 rfl ?_
  refine q_iast (pc := 9) dX4_addDeed_9 rfl (by omega) ?_
  refine q_aload_n (pc := 10) dX4_addDeed_10 rfl ?_
  refine q_getR (pc := 11) dX4_addDeed_11 fX4_19 rfl rfl ?_
  refine q_aload_n (pc := 14) dX4_addDeed_14 rfl ?_
  refine q_gI (pc := 15) 5 dX4_addDeed_15 fX4_39 rfl rfl rfl ?_
  simp only [up_ne (show (22 : Nat) ≠ 23 by decide), up_ne (show (22 : Nat) ≠ 24 by decide), up_ne (show (22 : Nat) ≠ 25 by decide)]
  refine q_iload_n (pc := 18) dX4_addDeed_18 rfl ?_
  refine q_iast (pc := 19) dX4_addDeed_19 rfl (by omega) ?_
  refine q_aload_n (pc := 20) dX4_addDeed_20 rfl ?_
  refine q_getR (pc := 21) dX4_addDeed_21 fX4_22 rfl rfl ?_
  refine q_aload_n (pc := 24) dX4_addDeed_24 rfl ?_
  refine q_gI (pc := 25) 5 dX4_addDeed_25 fX4_39 rfl rfl rfl ?_
  simp only [up_ne (show (22 : Nat) ≠ 23 by decide), up_ne (show (22 : Nat) ≠ 24 by decide), up_ne (show (22 : Nat) ≠ 25 by decide)]
  refine q_iload_n (pc := 28) dX4_addDeed_28 rfl ?_
  refine q_iast (pc := 29) dX4_addDeed_29 rfl (by omega) ?_
  refine q_aload_n (pc := 30) dX4_addDeed_30 rfl ?_
  refine q_dup (pc := 31) dX4_addDeed_31 rfl ?_
  refine q_gI (pc := 32) 5 dX4_addDeed_32 fX4_39 rfl rfl rfl ?_
  simp only [up_ne (show (22 : Nat) ≠ 23 by decide), up_ne (show (22 : Nat) ≠ 24 by decide), up_ne (show (22 : Nat) ≠ 25 by decide)]
  refine q_iconst (pc := 35) dX4_addDeed_35 ?_
  refine q_iadd (pc := 36) dX4_addDeed_36 ?_
  refine q_pI (pc := 37) 5 dX4_addDeed_37 wX4_39 rfl rfl rfl ?_
  refine q_rv (pc := 40) dX4_addDeed_40 rfl ?_
  rfl
/-- what an act keeps of the site: heights, softs, amounts, hour, done -/
def pk (σ : qM) : Int → Int := fun i => if i < 3 then σ 20 i else if i < 6 then σ 21 (i - 3) else if i < 13 then σ 18 (i - 6) else if i = 13 then σ 15 4 else σ 15 6
theorem t_X4_save {a : Int} (ha : 0 ≤ a ∧ a ≤ 345) : qE G mX4_save (d + 1) 0 [(0, vr 15), (1, vr 45), (2, vi a)] [] σ (rv fun σ1 => Fr σ σ1 [45] ∧ ∀ j, σ1 45 j = if a ≤ j ∧ j < a + 15 then pk σ (j - a) else σ 45 j) := by
  refine q_aload_n (pc := 0) dX4_save_0 rfl ?_
  refine q_getR (pc := 1) dX4_save_1 fX4_28 rfl rfl ?_
  refine q_getR (pc := 4) dX4_save_4 fX4_90 rfl rfl ?_
  refine q_iconst (pc := 7) dX4_save_7 ?_
  refine q_aload_n (pc := 8) dX4_save_8 rfl ?_
  refine q_iload_n (pc := 9) dX4_save_9 rfl ?_
  refine q_iconst (pc := 10) dX4_save_10 ?_
  refine q_copy (pc := 11) dX4_save_11 vX4_51 v_cp1 v_cp2 v_is rfl rfl (by omega) (by omega) (by omega) (by omega) (by omega) (Nat.le_of_ble_eq_true rfl) (by omega) ?_
  refine q_aload_n (pc := 14) dX4_save_14 rfl ?_
  refine q_getR (pc := 15) dX4_save_15 fX4_28 rfl rfl ?_
  refine q_getR (pc := 18) dX4_save_18 fX4_93 rfl rfl ?_
  refine q_iconst (pc := 21) dX4_save_21 ?_
  refine q_aload_n (pc := 22) dX4_save_22 rfl ?_
  refine q_iload_n (pc := 23) dX4_save_23 rfl ?_
  refine q_iconst (pc := 24) dX4_save_24 ?_
  refine q_iadd (pc := 25) dX4_save_25 ?_
  refine q_iconst (pc := 26) dX4_save_26 ?_
  refine q_copy (pc := 27) dX4_save_27 vX4_51 v_cp1 v_cp2 v_is rfl rfl (by omega) (by omega) (by omega) (by omega) (by omega) (Nat.le_of_ble_eq_true rfl) (by omega) ?_
  refine q_aload_n (pc := 30) dX4_save_30 rfl ?_
  refine q_getR (pc := 31) dX4_save_31 fX4_22 rfl rfl ?_
  refine q_iconst (pc := 34) dX4_save_34 ?_
  refine q_aload_n (pc := 35) dX4_save_35 rfl ?_
  refine q_iload_n (pc := 36) dX4_save_36 rfl ?_
  refine q_bipush (pc := 37) dX4_save_37 (by decide +kernel) ?_
  refine q_iadd (pc := 39) dX4_save_39 ?_
  refine q_bipush (pc := 40) dX4_save_40 (by decide +kernel) ?_
  refine q_copy (pc := 42) dX4_save_42 vX4_51 v_cp1 v_cp2 v_is rfl rfl (by omega) (by omega) (by omega) (by omega) (by omega) (Nat.le_of_ble_eq_true rfl) (by omega) ?_
  refine q_aload_n (pc := 45) dX4_save_45 rfl ?_
  refine q_iload_n (pc := 46) dX4_save_46 rfl ?_
  refine q_bipush (pc := 47) dX4_save_47 (by decide +kernel) ?_
  refine q_iadd (pc := 49) dX4_save_49 ?_
  refine q_iconst (pc := 50) dX4_save_50 ?_
  refine q_isub (pc := 51) dX4_save_51 ?_
  refine q_aload_n (pc := 52) dX4_save_52 rfl ?_
  refine q_gI (pc := 53) 4 dX4_save_53 fX4_36 rfl rfl rfl ?_
  refine q_iast (pc := 56) dX4_save_56 rfl (by omega) ?_
  refine q_aload_n (pc := 57) dX4_save_57 rfl ?_
  refine q_iload_n (pc := 58) dX4_save_58 rfl ?_
  refine q_bipush (pc := 59) dX4_save_59 (by decide +kernel) ?_
  refine q_iadd (pc := 61) dX4_save_61 ?_
  refine q_iconst (pc := 62) dX4_save_62 ?_
  refine q_isub (pc := 63) dX4_save_63 ?_
  refine q_aload_n (pc := 64) dX4_save_64 rfl ?_
  refine q_gI (pc := 65) 6 dX4_save_65 fX4_42 rfl rfl rfl ?_
  refine q_iast (pc := 68) dX4_save_68 rfl (by omega) ?_
  refine q_rv (pc := 69) dX4_save_69 rfl ?_
  refine ⟨by repeat' first | exact Fr.rf | refine Fr.tt ?_ (Fr.put (by decide)) | refine Fr.tt ?_ (Fr.up (by decide)), fun j => ?_⟩
  simp only [up_same, put_same, up, put, qcpy, pk]
  simp only [show ¬ (20 : Nat) = 45 by decide, show ¬ (21 : Nat) = 45 by decide, show ¬ (18 : Nat) = 45 by decide, show ¬ (15 : Nat) = 45 by decide, if_false, if_true, true_and, false_and, Int.zero_add, qcpy]
  by_cases q1 : j = a + 15 - 1
  · simp only [q1, if_true]
    rw [if_pos (by omega), if_neg (by omega), if_neg (by omega), if_neg (by omega), if_neg (by omega)]
  · by_cases q2 : j = a + 15 - 2
    · simp only [q1, q2, if_true, if_false]
      rw [if_neg (by omega), if_pos (by omega), if_neg (by omega), if_neg (by omega), if_neg (by omega), if_pos (by omega)]
    · simp only [q1, q2, if_false]
      by_cases q3 : a ≤ j ∧ j < a + 15
      · rw [if_pos q3]
        by_cases q4 : j < a + 3
        · rw [if_neg (by omega), if_neg (by omega), if_pos (by omega), if_pos (by omega)]
        · by_cases q5 : j < a + 6
          · rw [if_neg (by omega), if_pos (by omega), if_neg (by omega), if_pos (by omega)]
            congr 1; omega
          · rw [if_pos (by omega), if_neg (by omega), if_neg (by omega), if_pos (by omega)]
            congr 1; omega
      · rw [if_neg q3, if_neg (by omega), if_neg (by omega), if_neg (by omega)]
theorem t_X4_load {a : Int} (ha : 0 ≤ a ∧ a ≤ 345) : qE G mX4_load (d + 1) 0 [(0, vr 15), (1, vr 45), (2, vi a)] [] σ (rv fun σ1 => Fr σ σ1 [15, 18, 20, 21] ∧ (∀ i, 0 ≤ i → i < 15 → pk σ1 i = σ 45 (a + i)) ∧ ∀ i, i ≠ 4 → i ≠ 6 → σ1 15 i = σ 15 i) := by
  refine q_aload_n (pc := 0) dX4_load_0 rfl ?_
  refine q_iload_n (pc := 1) dX4_load_1 rfl ?_
  refine q_aload_n (pc := 2) dX4_load_2 rfl ?_
  refine q_getR (pc := 3) dX4_load_3 fX4_28 rfl rfl ?_
  refine q_getR (pc := 6) dX4_load_6 fX4_90 rfl rfl ?_
  refine q_iconst (pc := 9) dX4_load_9 ?_
  refine q_iconst (pc := 10) dX4_load_10 ?_
  refine q_copy (pc := 11) dX4_load_11 vX4_51 v_cp1 v_cp2 v_is rfl rfl (by omega) (by omega) (by omega) (by omega) (by omega) (Nat.le_of_ble_eq_true rfl) (by omega) ?_
  refine q_aload_n (pc := 14) dX4_load_14 rfl ?_
  refine q_iload_n (pc := 15) dX4_load_15 rfl ?_
  refine q_iconst (pc := 16) dX4_load_16 ?_
  refine q_iadd (pc := 17) dX4_load_17 ?_
  refine q_aload_n (pc := 18) dX4_load_18 rfl ?_
  refine q_getR (pc := 19) dX4_load_19 fX4_28 rfl rfl ?_
  refine q_getR (pc := 22) dX4_load_22 fX4_93 rfl rfl ?_
  refine q_iconst (pc := 25) dX4_load_25 ?_
  refine q_iconst (pc := 26) dX4_load_26 ?_
  refine q_copy (pc := 27) dX4_load_27 vX4_51 v_cp1 v_cp2 v_is rfl rfl (by omega) (by omega) (by omega) (by omega) (by omega) (Nat.le_of_ble_eq_true rfl) (by omega) ?_
  refine q_aload_n (pc := 30) dX4_load_30 rfl ?_
  refine q_iload_n (pc := 31) dX4_load_31 rfl ?_
  refine q_bipush (pc := 32) dX4_load_32 (by decide +kernel) ?_
  refine q_iadd (pc := 34) dX4_load_34 ?_
  refine q_aload_n (pc := 35) dX4_load_35 rfl ?_
  refine q_getR (pc := 36) dX4_load_36 fX4_22 rfl rfl ?_
  refine q_iconst (pc := 39) dX4_load_39 ?_
  refine q_bipush (pc := 40) dX4_load_40 (by decide +kernel) ?_
  refine q_copy (pc := 42) dX4_load_42 vX4_51 v_cp1 v_cp2 v_is rfl rfl (by omega) (by omega) (by omega) (by omega) (by omega) (Nat.le_of_ble_eq_true rfl) (by omega) ?_
  refine q_aload_n (pc := 45) dX4_load_45 rfl ?_
  refine q_aload_n (pc := 46) dX4_load_46 rfl ?_
  refine q_iload_n (pc := 47) dX4_load_47 rfl ?_
  refine q_bipush (pc := 48) dX4_load_48 (by decide +kernel) ?_
  refine q_iadd (pc := 50) dX4_load_50 ?_
  refine q_iconst (pc := 51) dX4_load_51 ?_
  refine q_isub (pc := 52) dX4_load_52 ?_
  refine q_iald (pc := 53) dX4_load_53 rfl (by omega) ?_
  refine q_pI (pc := 54) 4 dX4_load_54 wX4_36 rfl rfl rfl ?_
  refine q_aload_n (pc := 57) dX4_load_57 rfl ?_
  refine q_aload_n (pc := 58) dX4_load_58 rfl ?_
  refine q_iload_n (pc := 59) dX4_load_59 rfl ?_
  refine q_bipush (pc := 60) dX4_load_60 (by decide +kernel) ?_
  refine q_iadd (pc := 62) dX4_load_62 ?_
  refine q_iconst (pc := 63) dX4_load_63 ?_
  refine q_isub (pc := 64) dX4_load_64 ?_
  refine q_iald (pc := 65) dX4_load_65 rfl (by omega) ?_
  refine q_pI (pc := 66) 6 dX4_load_66 wX4_42 rfl rfl rfl ?_
  refine q_rv (pc := 69) dX4_load_69 rfl ?_
  refine ⟨by repeat' first | exact Fr.rf | refine Fr.tt ?_ (Fr.put (by decide)) | refine Fr.tt ?_ (Fr.up (by decide)), fun i h0 h1 => ?_, fun i h4 h6 => ?_⟩
  · simp only [pk, up_same, put_same, up, put, qcpy]
    simp only [show ¬ (20 : Nat) = 15 by decide, show ¬ (20 : Nat) = 18 by decide, show ¬ (20 : Nat) = 21 by decide, show ¬ (21 : Nat) = 15 by decide, show ¬ (21 : Nat) = 18 by decide, show ¬ (18 : Nat) = 15 by decide, show ¬ (45 : Nat) = 15 by decide, show ¬ (45 : Nat) = 18 by decide, show ¬ (45 : Nat) = 20 by decide, show ¬ (45 : Nat) = 21 by decide, if_false, if_true, true_and, false_and, Int.sub_zero, qcpy]
    by_cases q1 : i < 3
    · rw [if_pos q1, if_pos (by omega)]
    · rw [if_neg q1]
      by_cases q2 : i < 6
      · rw [if_pos q2, if_pos (by omega)]
        congr 1; omega
      · rw [if_neg q2]
        by_cases q3 : i < 13
        · rw [if_pos q3, if_pos (by omega)]
          congr 1; omega
        · rw [if_neg q3]
          by_cases q4 : i = 13
          · subst q4
            simp
            congr 1; omega
          · rw [if_neg q4]
            try simp
            congr 1; omega
  · simp [up, put, h4, h6]
end T4
