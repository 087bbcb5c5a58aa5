/-! ===== the reference: deeds, hours, keeping ===== -/
theorem mDo_ok {f : Int → Int} {i : Int} (hO : mOk f) (h : 0 ≤ f (14 + 3 * i) ∧ f (14 + 3 * i) ≤ 2) : mOk (mDo f i) := u1_ok (mAct_ok hO h.1 h.2) (fun q => by omega) (fun q => by omega)
section T8
variable {G : qGl} {d : Nat} {σ : qM} {k : Nat} {f g : Int → Int}
theorem rw_swap (hf : RwR σ k f) : RwR (up (up (up (up σ k 7 (σ k (7 + 1))) k (7 + 1) (σ k 7)) k 10 (up (up σ k 7 (σ k (7 + 1))) k (7 + 1) (σ k 7) k (10 + 1))) k (10 + 1) (up (up σ k 7 (σ k (7 + 1))) k (7 + 1) (σ k 7) k 10)) k (mSwap f) := by
  intro j h0 h1
  have e7 := hf 7 (by omega) (by omega)
  have e8 := hf 8 (by omega) (by omega)
  have e10 := hf 10 (by omega) (by omega)
  have e11 := hf 11 (by omega) (by omega)
  have ej := hf j h0 h1
  simp only [up_same, show (7 : Int) + 1 = 8 by decide, show (10 : Int) + 1 = 11 by decide, show ¬ (11 : Int) = 8 by decide, show ¬ (11 : Int) = 7 by decide, show ¬ (10 : Int) = 8 by decide, show ¬ (10 : Int) = 7 by decide, if_false]
  unfold mSwap
  by_cases q7 : j = 7
  · subst q7; simp [e8]
  · by_cases q8 : j = 8
    · subst q8; simp [e7]
    · by_cases q10 : j = 10
      · subst q10; simp [e11]
      · by_cases q11 : j = 11
        · subst q11; simp [e10]
        · simp [q7, q8, q10, q11, ej]
theorem t_X8_does0 {i : Int} (hk : qSh k = (1, 34, [])) (hf : RwR σ k f) (hO : mOk f) (hi : 0 ≤ i ∧ i < 7) (r8 : (1 ≤ f (13 + 3 * i) ∧ f (13 + 3 * i) ≤ 5) ∧ (0 ≤ f (14 + 3 * i) ∧ f (14 + 3 * i) ≤ 2) ∧ (1 ≤ f (15 + 3 * i) ∧ f (15 + 3 * i) ≤ 20)) : qE G mX8_does (d + 3) 0 [(0, vr k), (1, vi i)] [] σ (rv fun σ1 => Fr σ σ1 [k] ∧ RwR σ1 k (mDo f i) ∧ mOk (mDo f i)) := by
  have a1 : f (13 + 3 * i + 1) = f (14 + 3 * i) := by congr 1; omega
  have a2 : f (13 + 3 * i + 2) = f (15 + 3 * i) := by congr 1; omega
  have a0 : f (13 + 3 * i + 0) = f (13 + 3 * i) := by congr 1; omega
  have e2 := hO.s r8.2.1.1 r8.2.1.2
  have tail : ∀ (σ1 : qM) (g : Int → Int), Fr σ σ1 [k] → RwR σ1 k g → g = mAct f (f (13 + 3 * i)) (f (14 + 3 * i)) (f (15 + 3 * i)) → qE G mX8_does (d + 3) 164 [(0, vr k), (1, vi i)] [] σ1 (rv fun σ1 => Fr σ σ1 [k] ∧ RwR σ1 k (mDo f i) ∧ mOk (mDo f i)) := by
    intro σ1 g h1 h2 h3
    have e6 : σ1 k 6 = f 6 := by
      rw [h2 6 (by omega) (by omega), h3]
      exact mAct_o f _ _ _ r8.2.1.1 r8.2.1.2 (by omega)
    refine q_aload_n (pc := 164) dX8_does_164 rfl ?_
    refine q_bipush (pc := 165) dX8_does_165 (by decide +kernel) ?_
    refine q_dup2 (pc := 167) dX8_does_167 rfl rfl ?_
    refine q_iald (pc := 168) dX8_does_168 (by first | assumption | rfl) (by omega) ?_
    refine q_iconst (pc := 169) dX8_does_169 ?_
    refine q_iload_n (pc := 170) dX8_does_170 rfl ?_
    refine q_ishl (pc := 171) dX8_does_171 ?_
    refine q_ior (pc := 172) dX8_does_172 ?_
    refine q_iast (pc := 173) dX8_does_173 (by first | assumption | rfl) (by omega) ?_
    refine q_rv (pc := 174) dX8_does_174 rfl ?_
    rw [e6]
    refine ⟨h1.tt (Fr.up (by simp)), ?_, mDo_ok hO r8.2.1⟩
    unfold mDo
    rw [← h3]
    exact h2.up
  unfold mAct at tail
  refine q_aload_n (pc := 0) dX8_does_0 rfl ?_
  refine q_iload_n (pc := 1) dX8_does_1 rfl ?_
  refine q_iconst (pc := 2) dX8_does_2 ?_
  refine q_S3i (pc := 3) dX8_does_3 vX8_172 (Nat.le_of_ble_eq_true rfl) (Nat.le_of_ble_eq_true rfl) (t_X8_of hk hf (by omega) (by omega)) (fun r1 σ1 hc1 => ?_)
  obtain ⟨rfl, rfl⟩ := hc1
  refine q_istore_n (pc := 6) dX8_does_6 (Nat.le_of_ble_eq_true rfl) ?_
  refine q_aload_n (pc := 7) dX8_does_7 rfl ?_
  refine q_iload_n (pc := 8) dX8_does_8 rfl ?_
  refine q_iconst (pc := 9) dX8_does_9 ?_
  refine q_S3i (pc := 10) dX8_does_10 vX8_172 (Nat.le_of_ble_eq_true rfl) (Nat.le_of_ble_eq_true rfl) (t_X8_of hk hf (by omega) (by omega)) (fun r2 σ2 hc2 => ?_)
  obtain ⟨rfl, rfl⟩ := hc2
  refine q_istore_n (pc := 13) dX8_does_13 (Nat.le_of_ble_eq_true rfl) ?_
  refine q_aload_n (pc := 14) dX8_does_14 rfl ?_
  refine q_iload_n (pc := 15) dX8_does_15 rfl ?_
  refine q_iconst (pc := 16) dX8_does_16 ?_
  refine q_S3i (pc := 17) dX8_does_17 vX8_172 (Nat.le_of_ble_eq_true rfl) (Nat.le_of_ble_eq_true rfl) (t_X8_of hk hf (by omega) (by omega)) (fun r3 σ3 hc3 => ?_)
  obtain ⟨rfl, rfl⟩ := hc3
  simp only [a0, a1, a2]
  rcases (show (f (13 + 3 * i)) = 1 ∨ (f (13 + 3 * i)) = 2 ∨ (f (13 + 3 * i)) = 3 ∨ (f (13 + 3 * i)) = 4 ∨ ((f (13 + 3 * i)) < 1 ∨ 4 < (f (13 + 3 * i))) by omega) with hs20 | hs20 | hs20 | hs20 | hs20
  · refine q_tsIn (pc := 20) (off := 32) (tgt := 52) dX8_does_20 (by omega) (by omega) (by omega) (by rw [hs20]; rfl) (by decide) ?_
    refine q_aload_n (pc := 52) dX8_does_52 rfl ?_
    refine q_iload_n (pc := 53) dX8_does_53 rfl ?_
    refine q_iload_n (pc := 54) dX8_does_54 rfl ?_
    refine q_S3v (pc := 55) dX8_does_55 vX8_168 (Nat.le_of_ble_eq_true rfl) (Nat.le_of_ble_eq_true rfl) (t_X8_lifts hk hf hO (by omega) (by omega) (by omega)) (fun σ4 hc4 => ?_)
    obtain ⟨hF4, hf, hO⟩ := hc4
    refine q_goto (pc := 58) (tgt := 164) dX8_does_58 (by decide) ?_
    first
    | exact q_locs _ [2, 3] rfl (tail _ _ hF4 hf (by rw [if_pos hs20]))
    | exact q_locs _ [2, 3] rfl (tail _ _ hF5 hf (by rw [if_neg (by omega), if_pos hs20]))
    | exact q_locs _ [2, 3] rfl (tail _ _ hF7 hf (by rw [if_neg (by omega), if_neg (by omega), if_neg (by omega), if_pos hs20]))
    | exact q_locs _ [4, 5] rfl (tail _ _ (Fr.tt (Fr.tt (Fr.tt (Fr.tt (Fr.up (by simp)) (Fr.up (by simp))) (Fr.up (by simp))) (Fr.up (by simp))) hF8) hf (by rw [if_neg (by omega), if_neg (by omega), if_neg (by omega), if_neg (by omega)]))
    | (refine q_locs _ [2, 3] rfl (tail _ (mSoft (mLift f (f (14 + 3 * i)) (f (15 + 3 * i))) (f (14 + 3 * i))) (hF6.tt (Fr.up (by simp))) ?_ (by rw [if_neg (by omega), if_neg (by omega), if_pos hs20]))
       unfold mSoft
       rw [e3]
       first
       | (rw [if_pos (by omega), e4]; exact hf.up)
       | (rw [if_neg (by omega), e4, Int.add_zero]; exact hf.up))
  · refine q_tsIn (pc := 20) (off := 41) (tgt := 61) dX8_does_20 (by omega) (by omega) (by omega) (by rw [hs20]; rfl) (by decide) ?_
    refine q_aload_n (pc := 61) dX8_does_61 rfl ?_
    refine q_iload_n (pc := 62) dX8_does_62 rfl ?_
    refine q_iload_n (pc := 63) dX8_does_63 rfl ?_
    refine q_iconst (pc := 64) dX8_does_64 ?_
    refine q_idiv (pc := 65) dX8_does_65 (by omega) ?_
    refine q_iconst (pc := 66) dX8_does_66 ?_
    refine q_iadd (pc := 67) dX8_does_67 ?_
    refine q_S3v (pc := 68) dX8_does_68 vX8_168 (Nat.le_of_ble_eq_true rfl) (Nat.le_of_ble_eq_true rfl) (t_X8_lifts hk hf hO (by omega) (by omega) (by omega)) (fun σ5 hc5 => ?_)
    obtain ⟨hF5, hf, hO⟩ := hc5
    refine q_goto (pc := 71) (tgt := 164) dX8_does_71 (by decide) ?_
    first
    | exact q_locs _ [2, 3] rfl (tail _ _ hF4 hf (by rw [if_pos hs20]))
    | exact q_locs _ [2, 3] rfl (tail _ _ hF5 hf (by rw [if_neg (by omega), if_pos hs20]))
    | exact q_locs _ [2, 3] rfl (tail _ _ hF7 hf (by rw [if_neg (by omega), if_neg (by omega), if_neg (by omega), if_pos hs20]))
    | exact q_locs _ [4, 5] rfl (tail _ _ (Fr.tt (Fr.tt (Fr.tt (Fr.tt (Fr.up (by simp)) (Fr.up (by simp))) (Fr.up (by simp))) (Fr.up (by simp))) hF8) hf (by rw [if_neg (by omega), if_neg (by omega), if_neg (by omega), if_neg (by omega)]))
    | (refine q_locs _ [2, 3] rfl (tail _ (mSoft (mLift f (f (14 + 3 * i)) (f (15 + 3 * i))) (f (14 + 3 * i))) (hF6.tt (Fr.up (by simp))) ?_ (by rw [if_neg (by omega), if_neg (by omega), if_pos hs20]))
       unfold mSoft
       rw [e3]
       first
       | (rw [if_pos (by omega), e4]; exact hf.up)
       | (rw [if_neg (by omega), e4, Int.add_zero]; exact hf.up))
  · refine q_tsIn (pc := 20) (off := 54) (tgt := 74) dX8_does_20 (by omega) (by omega) (by omega) (by rw [hs20]; rfl) (by decide) ?_
    refine q_aload_n (pc := 74) dX8_does_74 rfl ?_
    refine q_iload_n (pc := 75) dX8_does_75 rfl ?_
    refine q_iload_n (pc := 76) dX8_does_76 rfl ?_
    refine q_S3v (pc := 77) dX8_does_77 vX8_168 (Nat.le_of_ble_eq_true rfl) (Nat.le_of_ble_eq_true rfl) (t_X8_lifts hk hf hO (by omega) (by omega) (by omega)) (fun σ6 hc6 => ?_)
    obtain ⟨hF6, hf, hO⟩ := hc6
    have e3 : mLift f (f (14 + 3 * i)) (f (15 + 3 * i)) (10 + f (14 + 3 * i)) = f (10 + f (14 + 3 * i)) := by unfold mLift u1; rw [if_neg (by omega)]
    have e4 := hf (10 + f (14 + 3 * i)) (by omega) (by omega)
    rw [e3] at e4
    refine q_aload_n (pc := 80) dX8_does_80 rfl ?_
    refine q_bipush (pc := 81) dX8_does_81 (by decide +kernel) ?_
    refine q_iload_n (pc := 83) dX8_does_83 rfl ?_
    refine q_iadd (pc := 84) dX8_does_84 ?_
    refine q_dup2 (pc := 85) dX8_does_85 rfl rfl ?_
    refine q_iald (pc := 86) dX8_does_86 (by first | assumption | rfl) (by omega) ?_
    refine q_aload_n (pc := 87) dX8_does_87 rfl ?_
    refine q_bipush (pc := 88) dX8_does_88 (by decide +kernel) ?_
    refine q_iload_n (pc := 90) dX8_does_90 rfl ?_
    refine q_iadd (pc := 91) dX8_does_91 ?_
    refine q_iald (pc := 92) dX8_does_92 (by first | assumption | rfl) (by omega) ?_
    refine q_bipush (pc := 93) dX8_does_93 (by decide +kernel) ?_
    refine q_icmpge (pc := 95) (tgt := 102) dX8_does_95 (by decide) (by omega) (by omega) (fun h95 => ?_) (fun h95 => ?_)
    · refine q_iconst (pc := 102) dX8_does_102 ?_
      refine q_iadd (pc := 103) dX8_does_103 ?_
      refine q_iast (pc := 104) dX8_does_104 (by first | assumption | rfl) (by omega) ?_
      refine q_goto (pc := 105) (tgt := 164) dX8_does_105 (by decide) ?_
      first
      | exact q_locs _ [2, 3] rfl (tail _ _ hF4 hf (by rw [if_pos hs20]))
      | exact q_locs _ [2, 3] rfl (tail _ _ hF5 hf (by rw [if_neg (by omega), if_pos hs20]))
      | exact q_locs _ [2, 3] rfl (tail _ _ hF7 hf (by rw [if_neg (by omega), if_neg (by omega), if_neg (by omega), if_pos hs20]))
      | exact q_locs _ [4, 5] rfl (tail _ _ (Fr.tt (Fr.tt (Fr.tt (Fr.tt (Fr.up (by simp)) (Fr.up (by simp))) (Fr.up (by simp))) (Fr.up (by simp))) hF8) hf (by rw [if_neg (by omega), if_neg (by omega), if_neg (by omega), if_neg (by omega)]))
      | (refine q_locs _ [2, 3] rfl (tail _ (mSoft (mLift f (f (14 + 3 * i)) (f (15 + 3 * i))) (f (14 + 3 * i))) (hF6.tt (Fr.up (by simp))) ?_ (by rw [if_neg (by omega), if_neg (by omega), if_pos hs20]))
         unfold mSoft
         rw [e3]
         first
         | (rw [if_pos (by omega), e4]; exact hf.up)
         | (rw [if_neg (by omega), e4, Int.add_zero]; exact hf.up))
    · refine q_iconst (pc := 98) dX8_does_98 ?_
      refine q_goto (pc := 99) (tgt := 103) dX8_does_99 (by decide) ?_
      refine q_iadd (pc := 103) dX8_does_103 ?_
      refine q_iast (pc := 104) dX8_does_104 (by first | assumption | rfl) (by omega) ?_
      refine q_goto (pc := 105) (tgt := 164) dX8_does_105 (by decide) ?_
      first
      | exact q_locs _ [2, 3] rfl (tail _ _ hF4 hf (by rw [if_pos hs20]))
      | exact q_locs _ [2, 3] rfl (tail _ _ hF5 hf (by rw [if_neg (by omega), if_pos hs20]))
      | exact q_locs _ [2, 3] rfl (tail _ _ hF7 hf (by rw [if_neg (by omega), if_neg (by omega), if_neg (by omega), if_pos hs20]))
      | exact q_locs _ [4, 5] rfl (tail _ _ (Fr.tt (Fr.tt (Fr.tt (Fr.tt (Fr.up (by simp)) (Fr.up (by simp))) (Fr.up (by simp))) (Fr.up (by simp))) hF8) hf (by rw [if_neg (by omega), if_neg (by omega), if_neg (by omega), if_neg (by omega)]))
      | (refine q_locs _ [2, 3] rfl (tail _ (mSoft (mLift f (f (14 + 3 * i)) (f (15 + 3 * i))) (f (14 + 3 * i))) (hF6.tt (Fr.up (by simp))) ?_ (by rw [if_neg (by omega), if_neg (by omega), if_pos hs20]))
         unfold mSoft
         rw [e3]
         first
         | (rw [if_pos (by omega), e4]; exact hf.up)
         | (rw [if_neg (by omega), e4, Int.add_zero]; exact hf.up))
  · refine q_tsIn (pc := 20) (off := 88) (tgt := 108) dX8_does_20 (by omega) (by omega) (by omega) (by rw [hs20]; rfl) (by decide) ?_
    refine q_aload_n (pc := 108) dX8_does_108 rfl ?_
    refine q_iload_n (pc := 109) dX8_does_109 rfl ?_
    refine q_S2v (pc := 110) dX8_does_110 vX8_176 (Nat.le_of_ble_eq_true rfl) (Nat.le_of_ble_eq_true rfl) (t_X8_winds hk hf hO (by omega)) (fun σ7 hc7 => ?_)
    obtain ⟨hF7, hf, hO⟩ := hc7
    refine q_goto (pc := 113) (tgt := 164) dX8_does_113 (by decide) ?_
    first
    | exact q_locs _ [2, 3] rfl (tail _ _ hF4 hf (by rw [if_pos hs20]))
    | exact q_locs _ [2, 3] rfl (tail _ _ hF5 hf (by rw [if_neg (by omega), if_pos hs20]))
    | exact q_locs _ [2, 3] rfl (tail _ _ hF7 hf (by rw [if_neg (by omega), if_neg (by omega), if_neg (by omega), if_pos hs20]))
    | exact q_locs _ [4, 5] rfl (tail _ _ (Fr.tt (Fr.tt (Fr.tt (Fr.tt (Fr.up (by simp)) (Fr.up (by simp))) (Fr.up (by simp))) (Fr.up (by simp))) hF8) hf (by rw [if_neg (by omega), if_neg (by omega), if_neg (by omega), if_neg (by omega)]))
    | (refine q_locs _ [2, 3] rfl (tail _ (mSoft (mLift f (f (14 + 3 * i)) (f (15 + 3 * i))) (f (14 + 3 * i))) (hF6.tt (Fr.up (by simp))) ?_ (by rw [if_neg (by omega), if_neg (by omega), if_pos hs20]))
       unfold mSoft
       rw [e3]
       first
       | (rw [if_pos (by omega), e4]; exact hf.up)
       | (rw [if_neg (by omega), e4, Int.add_zero]; exact hf.up))
  · refine q_tsOut (pc := 20) (tgt := 116) dX8_does_20 (by omega) hs20 (by decide) ?_
    refine q_bipush (pc := 116) dX8_does_116 (by decide +kernel) ?_
    refine q_istore (pc := 118) dX8_does_118 (Nat.le_of_ble_eq_true rfl) ?_
    refine q_iload (pc := 120) dX8_does_120 rfl ?_
    refine q_bipush (pc := 122) dX8_does_122 (by decide +kernel) ?_
    refine q_icmpgt (pc := 124) (tgt := 157) dX8_does_124 (by decide) (by omega) (by omega) (fun h => absurd h (by omega)) (fun h124 => ?_)
    refine q_aload_n (pc := 127) dX8_does_127 rfl ?_
    refine q_iload (pc := 128) dX8_does_128 rfl ?_
    refine q_iald (pc := 130) dX8_does_130 (by first | assumption | rfl) (by omega) ?_
    refine q_istore (pc := 131) dX8_does_131 (Nat.le_of_ble_eq_true rfl) ?_
    refine q_aload_n (pc := 133) dX8_does_133 rfl ?_
    refine q_iload (pc := 134) dX8_does_134 rfl ?_
    refine q_aload_n (pc := 136) dX8_does_136 rfl ?_
    refine q_iload (pc := 137) dX8_does_137 rfl ?_
    refine q_iconst (pc := 139) dX8_does_139 ?_
    refine q_iadd (pc := 140) dX8_does_140 ?_
    refine q_iald (pc := 141) dX8_does_141 (by first | assumption | rfl) (by omega) ?_
    refine q_iast (pc := 142) dX8_does_142 (by first | assumption | rfl) (by omega) ?_
    refine q_aload_n (pc := 143) dX8_does_143 rfl ?_
    refine q_iload (pc := 144) dX8_does_144 rfl ?_
    refine q_iconst (pc := 146) dX8_does_146 ?_
    refine q_iadd (pc := 147) dX8_does_147 ?_
    refine q_iload (pc := 148) dX8_does_148 rfl ?_
    refine q_iast (pc := 150) dX8_does_150 (by first | assumption | rfl) (by omega) ?_
    refine q_iincK (pc := 151) (v := 10) dX8_does_151 rfl (Nat.le_of_ble_eq_true rfl) (by decide) ?_
    refine q_goto (pc := 154) (tgt := 120) dX8_does_154 (by decide) ?_
    refine q_iload (pc := 120) dX8_does_120 rfl ?_
    refine q_bipush (pc := 122) dX8_does_122 (by decide +kernel) ?_
    refine q_icmpgt (pc := 124) (tgt := 157) dX8_does_124 (by decide) (by omega) (by omega) (fun h => absurd h (by omega)) (fun h124 => ?_)
    refine q_aload_n (pc := 127) dX8_does_127 rfl ?_
    refine q_iload (pc := 128) dX8_does_128 rfl ?_
    refine q_iald (pc := 130) dX8_does_130 (by first | assumption | rfl) (by omega) ?_
    refine q_istore (pc := 131) dX8_does_131 (Nat.le_of_ble_eq_true rfl) ?_
    refine q_aload_n (pc := 133) dX8_does_133 rfl ?_
    refine q_iload (pc := 134) dX8_does_134 rfl ?_
    refine q_aload_n (pc := 136) dX8_does_136 rfl ?_
    refine q_iload (pc := 137) dX8_does_137 rfl ?_
    refine q_iconst (pc := 139) dX8_does_139 ?_
    refine q_iadd (pc := 140) dX8_does_140 ?_
    refine q_iald (pc := 141) dX8_does_141 (by first | assumption | rfl) (by omega) ?_
    refine q_iast (pc := 142) dX8_does_142 (by first | assumption | rfl) (by omega) ?_
    refine q_aload_n (pc := 143) dX8_does_143 rfl ?_
    refine q_iload (pc := 144) dX8_does_144 rfl ?_
    refine q_iconst (pc := 146) dX8_does_146 ?_
    refine q_iadd (pc := 147) dX8_does_147 ?_
    refine q_iload (pc := 148) dX8_does_148 rfl ?_
    refine q_iast (pc := 150) dX8_does_150 (by first | assumption | rfl) (by omega) ?_
    refine q_iincK (pc := 151) (v := 13) dX8_does_151 rfl (Nat.le_of_ble_eq_true rfl) (by decide) ?_
    refine q_goto (pc := 154) (tgt := 120) dX8_does_154 (by decide) ?_
    refine q_iload (pc := 120) dX8_does_120 rfl ?_
    refine q_bipush (pc := 122) dX8_does_122 (by decide +kernel) ?_
    refine q_icmpgt (pc := 124) (tgt := 157) dX8_does_124 (by decide) (by omega) (by omega) (fun h124 => ?_) (fun h => absurd h (by omega))
    have hf := rw_swap hf
    have hO := mSwap_ok hO
    refine q_aload_n (pc := 157) dX8_does_157 rfl ?_
    refine q_iload_n (pc := 158) dX8_does_158 rfl ?_
    refine q_iconst (pc := 159) dX8_does_159 ?_
    refine q_idiv (pc := 160) dX8_does_160 (by omega) ?_
    refine q_S2v (pc := 161) dX8_does_161 vX8_176 (Nat.le_of_ble_eq_true rfl) (Nat.le_of_ble_eq_true rfl) (t_X8_winds hk hf hO (by omega)) (fun σ8 hc8 => ?_)
    obtain ⟨hF8, hf, hO⟩ := hc8
    first
    | exact q_locs _ [2, 3] rfl (tail _ _ hF4 hf (by rw [if_pos hs20]))
    | exact q_locs _ [2, 3] rfl (tail _ _ hF5 hf (by rw [if_neg (by omega), if_pos hs20]))
    | exact q_locs _ [2, 3] rfl (tail _ _ hF7 hf (by rw [if_neg (by omega), if_neg (by omega), if_neg (by omega), if_pos hs20]))
    | exact q_locs _ [4, 5] rfl (tail _ _ (Fr.tt (Fr.tt (Fr.tt (Fr.tt (Fr.up (by simp)) (Fr.up (by simp))) (Fr.up (by simp))) (Fr.up (by simp))) hF8) hf (by rw [if_neg (by omega), if_neg (by omega), if_neg (by omega), if_neg (by omega)]))
    | (refine q_locs _ [2, 3] rfl (tail _ (mSoft (mLift f (f (14 + 3 * i)) (f (15 + 3 * i))) (f (14 + 3 * i))) (hF6.tt (Fr.up (by simp))) ?_ (by rw [if_neg (by omega), if_neg (by omega), if_pos hs20]))
       unfold mSoft
       rw [e3]
       first
       | (rw [if_pos (by omega), e4]; exact hf.up)
       | (rw [if_neg (by omega), e4, Int.add_zero]; exact hf.up))
theorem t_X8_does {i : Int} (hk : qSh k = (1, 34, [])) (hf : RwR σ k f) (hR : Row f) (hi : 0 ≤ i ∧ i < f 5) : qE G mX8_does (d + 3) 0 [(0, vr k), (1, vi i)] [] σ (rv fun σ1 => Fr σ σ1 [k] ∧ RwR σ1 k (mDo f i) ∧ mOk (mDo f i)) :=
  t_X8_does0 hk hf hR.1 ⟨hi.1, by have := hR.2.2.1; omega⟩ (hR.2.2.2.2.2.2.2 i hi.1 hi.2)
theorem t_X8_hour (hk : qSh k = (1, 34, [])) (hf : RwR σ k f) (hO : mOk f) (h3 : 1 ≤ f 3 ∧ f 3 ≤ 9) (h4 : 0 ≤ f 4 ∧ f 4 ≤ 100000) : qE G mX8_hour (d + 1) 0 [(0, vr k)] [] σ (rv fun σ1 => Fr σ σ1 [k] ∧ RwR σ1 k (mHour f) ∧ mOk (mHour f)) := by
  have e3 := hf 3 (by omega) (by omega)
  have e4 := hf 4 (by omega) (by omega)
  have q := hO
  obtain ⟨o1, o2, o3, o4, o5, o6⟩ := q
  have hm : σ k 4 % σ k 3 = f 4 % f 3 := by rw [e3, e4]
  have hm2 : 0 ≤ f 4 % f 3 ∧ f 4 % f 3 < f 3 := ⟨Int.emod_nonneg _ (by omega), Int.emod_lt_of_pos _ (by omega)⟩
  have tail : ∀ (σ1 : qM) (g : Int → Int), Fr σ σ1 [k] → RwR σ1 k g → g = (if f 4 % f 3 = 0 then mRain f else f) → qE G mX8_hour (d + 1) 35 [(0, vr k)] [] σ1 (rv fun σ1 => Fr σ σ1 [k] ∧ RwR σ1 k (mHour f) ∧ mOk (mHour f)) := by
    intro σ1 g h1 h2 h3
    have e6 : σ1 k 4 = f 4 := by
      rw [h2 4 (by omega) (by omega), h3]
      split
      · exact mRain_o f (by omega)
      · rfl
    refine q_aload_n (pc := 35) dX8_hour_35 rfl ?_
    refine q_iconst (pc := 36) dX8_hour_36 ?_
    refine q_dup2 (pc := 37) dX8_hour_37 rfl rfl ?_
    refine q_iald (pc := 38) dX8_hour_38 (by first | assumption | rfl) (by omega) ?_
    refine q_iconst (pc := 39) dX8_hour_39 ?_
    refine q_iadd (pc := 40) dX8_hour_40 ?_
    refine q_iast (pc := 41) dX8_hour_41 (by first | assumption | rfl) (by omega) ?_
    refine q_rv (pc := 42) dX8_hour_42 rfl ?_
    rw [e6]
    refine ⟨h1.tt (Fr.up (by simp)), ?_, mHour_ok hO⟩
    unfold mHour
    rw [← h3]
    exact h2.up
  refine q_aload_n (pc := 0) dX8_hour_0 rfl ?_
  refine q_iconst (pc := 1) dX8_hour_1 ?_
  refine q_iald (pc := 2) dX8_hour_2 (by first | assumption | rfl) (by omega) ?_
  refine q_aload_n (pc := 3) dX8_hour_3 rfl ?_
  refine q_iconst (pc := 4) dX8_hour_4 ?_
  refine q_iald (pc := 5) dX8_hour_5 (by first | assumption | rfl) (by omega) ?_
  refine q_irem (pc := 6) dX8_hour_6 (by omega) ?_
  simp only [hm]
  refine q_ifne (pc := 7) (tgt := 35) dX8_hour_7 (by decide) (by omega) (fun h7 => ?_) (fun h7 => ?_)
  · first
    | exact tail _ _ Fr.rf hf (by rw [if_neg (by omega)])
    | (refine q_locs _ [1] rfl (tail _ _ ((hF1.tt hF2).tt hF3) hf ?_)
       rw [if_pos (by omega)]
       rfl)
  · refine q_iconst (pc := 10) dX8_hour_10 ?_
    refine q_istore_n (pc := 11) dX8_hour_11 (Nat.le_of_ble_eq_true rfl) ?_
    refine q_iload_n (pc := 12) dX8_hour_12 rfl ?_
    refine q_iconst (pc := 13) dX8_hour_13 ?_
    refine q_icmpge (pc := 14) (tgt := 35) dX8_hour_14 (by decide) (by omega) (by omega) (fun h => absurd h (by omega)) (fun h14 => ?_)
    refine q_aload_n (pc := 17) dX8_hour_17 rfl ?_
    refine q_iload_n (pc := 18) dX8_hour_18 rfl ?_
    refine q_aload_n (pc := 19) dX8_hour_19 rfl ?_
    refine q_bipush (pc := 20) dX8_hour_20 (by decide +kernel) ?_
    refine q_iload_n (pc := 22) dX8_hour_22 rfl ?_
    refine q_iadd (pc := 23) dX8_hour_23 ?_
    refine q_iald (pc := 24) dX8_hour_24 (by first | assumption | rfl) (by omega) ?_
    refine q_ineg (pc := 25) dX8_hour_25 ?_
    first
    | rw [show σ k (10 + 0) = f 10 from hf 10 (by omega) (by omega)]
    | rw [show σ1 k (10 + 1) = f 11 from hf 11 (by omega) (by omega)]
    | rw [show σ2 k (10 + 2) = f 12 from hf 12 (by omega) (by omega)]
    refine q_S3v (pc := 26) dX8_hour_26 vX8_168 (Nat.le_of_ble_eq_true rfl) (Nat.le_of_ble_eq_true rfl) (t_X8_lifts hk hf hO (by omega) (by omega) (by omega)) (fun σ1 hc1 => ?_)
    obtain ⟨hF1, hf, hO⟩ := hc1
    refine q_iincK (pc := 29) (v := 1) dX8_hour_29 rfl (Nat.le_of_ble_eq_true rfl) (by decide) ?_
    refine q_goto (pc := 32) (tgt := 12) dX8_hour_32 (by decide) ?_
    refine q_iload_n (pc := 12) dX8_hour_12 rfl ?_
    refine q_iconst (pc := 13) dX8_hour_13 ?_
    refine q_icmpge (pc := 14) (tgt := 35) dX8_hour_14 (by decide) (by omega) (by omega) (fun h => absurd h (by omega)) (fun h14 => ?_)
    refine q_aload_n (pc := 17) dX8_hour_17 rfl ?_
    refine q_iload_n (pc := 18) dX8_hour_18 rfl ?_
    refine q_aload_n (pc := 19) dX8_hour_19 rfl ?_
    refine q_bipush (pc := 20) dX8_hour_20 (by decide +kernel) ?_
    refine q_iload_n (pc := 22) dX8_hour_22 rfl ?_
    refine q_iadd (pc := 23) dX8_hour_23 ?_
    refine q_iald (pc := 24) dX8_hour_24 (by first | assumption | rfl) (by omega) ?_
    refine q_ineg (pc := 25) dX8_hour_25 ?_
    first
    | rw [show σ k (10 + 0) = f 10 from hf 10 (by omega) (by omega)]
    | rw [show σ1 k (10 + 1) = f 11 from hf 11 (by omega) (by omega)]
    | rw [show σ2 k (10 + 2) = f 12 from hf 12 (by omega) (by omega)]
    refine q_S3v (pc := 26) dX8_hour_26 vX8_168 (Nat.le_of_ble_eq_true rfl) (Nat.le_of_ble_eq_true rfl) (t_X8_lifts hk hf hO (by omega) (by omega) (by omega)) (fun σ2 hc2 => ?_)
    obtain ⟨hF2, hf, hO⟩ := hc2
    refine q_iincK (pc := 29) (v := 2) dX8_hour_29 rfl (Nat.le_of_ble_eq_true rfl) (by decide) ?_
    refine q_goto (pc := 32) (tgt := 12) dX8_hour_32 (by decide) ?_
    refine q_iload_n (pc := 12) dX8_hour_12 rfl ?_
    refine q_iconst (pc := 13) dX8_hour_13 ?_
    refine q_icmpge (pc := 14) (tgt := 35) dX8_hour_14 (by decide) (by omega) (by omega) (fun h => absurd h (by omega)) (fun h14 => ?_)
    refine q_aload_n (pc := 17) dX8_hour_17 rfl ?_
    refine q_iload_n (pc := 18) dX8_hour_18 rfl ?_
    refine q_aload_n (pc := 19) dX8_hour_19 rfl ?_
    refine q_bipush (pc := 20) dX8_hour_20 (by decide +kernel) ?_
    refine q_iload_n (pc := 22) dX8_hour_22 rfl ?_
    refine q_iadd (pc := 23) dX8_hour_23 ?_
    refine q_iald (pc := 24) dX8_hour_24 (by first | assumption | rfl) (by omega) ?_
    refine q_ineg (pc := 25) dX8_hour_25 ?_
    first
    | rw [show σ k (10 + 0) = f 10 from hf 10 (by omega) (by omega)]
    | rw [show σ1 k (10 + 1) = f 11 from hf 11 (by omega) (by omega)]
    | rw [show σ2 k (10 + 2) = f 12 from hf 12 (by omega) (by omega)]
    refine q_S3v (pc := 26) dX8_hour_26 vX8_168 (Nat.le_of_ble_eq_true rfl) (Nat.le_of_ble_eq_true rfl) (t_X8_lifts hk hf hO (by omega) (by omega) (by omega)) (fun σ3 hc3 => ?_)
    obtain ⟨hF3, hf, hO⟩ := hc3
    refine q_iincK (pc := 29) (v := 3) dX8_hour_29 rfl (Nat.le_of_ble_eq_true rfl) (by decide) ?_
    refine q_goto (pc := 32) (tgt := 12) dX8_hour_32 (by decide) ?_
    refine q_iload_n (pc := 12) dX8_hour_12 rfl ?_
    refine q_iconst (pc := 13) dX8_hour_13 ?_
    refine q_icmpge (pc := 14) (tgt := 35) dX8_hour_14 (by decide) (by omega) (by omega) (fun h14 => ?_) (fun h => absurd h (by omega))
    first
    | exact tail _ _ Fr.rf hf (by rw [if_neg (by omega)])
    | (refine q_locs _ [1] rfl (tail _ _ ((hF1.tt hF2).tt hF3) hf ?_)
       rw [if_pos (by omega)]
       rfl)
theorem t_X8_hoursOf_l {n : Int} (hk : qSh k = (1, 34, [])) (h3 : 1 ≤ f 3 ∧ f 3 ≤ 9) (h4 : 0 ≤ f 4 ∧ f 4 ≤ 10000) (hO0 : mOk f) (hn : 0 ≤ n ∧ n ≤ 1000) : ∀ (m t : Nat) (σ' : qM), (m : Int) + t = n → Fr σ σ' [k] → RwR σ' k (mHours t f) → qE G mX8_hoursOf (d + 2) 2 [(2, vi t), (0, vr k), (1, vi n)] [] σ' (rv fun σ1 => Fr σ σ1 [k] ∧ RwR σ1 k (mHours n.toNat f)) := by
  intro m
  induction m with
  | zero =>
    intro t σ' ht hF hf
    have e : n.toNat = t := by omega
    rw [e]
    refine q_iload_n (pc := 2) dX8_hoursOf_2 rfl ?_
    refine q_iload_n (pc := 3) dX8_hoursOf_3 rfl ?_
    refine q_icmpge (pc := 4) (tgt := 17) dX8_hoursOf_4 (by decide) (by omega) (by omega) (fun h4 => ?_) (fun h => absurd h (by omega))
    refine q_rv (pc := 17) dX8_hoursOf_17 rfl ?_
    exact ⟨hF, hf⟩
  | succ m ih =>
    intro t σ' ht hF hf
    have hO := mHours_ok hO0 t
    have e3 := mHours_o f (j := 3) (by omega) t
    have e4 := mHours_4 f t
    refine q_iload_n (pc := 2) dX8_hoursOf_2 rfl ?_
    refine q_iload_n (pc := 3) dX8_hoursOf_3 rfl ?_
    refine q_icmpge (pc := 4) (tgt := 17) dX8_hoursOf_4 (by decide) (by omega) (by omega) (fun h => absurd h (by omega)) (fun h4 => ?_)
    refine q_aload_n (pc := 7) dX8_hoursOf_7 rfl ?_
    refine q_S1v (pc := 8) dX8_hoursOf_8 vX8_180 (Nat.le_of_ble_eq_true rfl) (Nat.le_of_ble_eq_true rfl) (t_X8_hour hk hf hO (by omega) (by omega)) (fun σ1 hc1 => ?_)
    obtain ⟨hF1, hf, hO⟩ := hc1
    refine q_iinc (pc := 11) dX8_hoursOf_11 rfl (Nat.le_of_ble_eq_true rfl) ?_
    refine q_goto (pc := 14) (tgt := 2) dX8_hoursOf_14 (by decide) ?_
    exact ih (t + 1) σ1 (by omega) (hF.tt hF1) hf
theorem t_X8_hoursOf {n : Int} (hk : qSh k = (1, 34, [])) (hf : RwR σ k f) (h3 : 1 ≤ f 3 ∧ f 3 ≤ 9) (h4 : 0 ≤ f 4 ∧ f 4 ≤ 10000) (hO : mOk f) (hn : 0 ≤ n ∧ n ≤ 1000) : qE G mX8_hoursOf (d + 2) 0 [(0, vr k), (1, vi n)] [] σ (rv fun σ1 => Fr σ σ1 [k] ∧ RwR σ1 k (mHours n.toNat f)) := by
  refine q_iconst (pc := 0) dX8_hoursOf_0 ?_
  refine q_istore_n (pc := 1) dX8_hoursOf_1 (Nat.le_of_ble_eq_true rfl) ?_
  exact t_X8_hoursOf_l hk h3 h4 hO hn n.toNat 0 σ (by omega) Fr.rf hf
theorem t_X8_isDone {i : Int} (hf : RwR σ 86 f) : qE G mX8_isDone d 0 [(0, vr 82), (1, vi i)] [] σ (ri fun r σ1 => bi (mDone f i) = r ∧ σ = σ1) := by
  have e6 := hf 6 (by omega) (by omega)
  have hq := qand_in (qshr (σ 86 6) i) 1
  refine q_aload_n (pc := 0) dX8_isDone_0 rfl ?_
  refine q_getR (pc := 1) dX8_isDone_1 fX8_19 rfl rfl ?_
  refine q_bipush (pc := 4) dX8_isDone_4 (by decide +kernel) ?_
  refine q_iald (pc := 6) dX8_isDone_6 rfl (by omega) ?_
  refine q_iload_n (pc := 7) dX8_isDone_7 rfl ?_
  refine q_ishr (pc := 8) dX8_isDone_8 ?_
  refine q_iconst (pc := 9) dX8_isDone_9 ?_
  refine q_iand (pc := 10) dX8_isDone_10 ?_
  refine q_iconst (pc := 11) dX8_isDone_11 ?_
  refine q_icmpne (pc := 12) (tgt := 19) dX8_isDone_12 (by decide) (by omega) (by omega) (fun h12 => ?_) (fun h12 => ?_)
  · refine q_iconst (pc := 19) dX8_isDone_19 ?_
    refine q_rz (pc := 20) dX8_isDone_20 rfl (by first | exact bi_01 _ | omega) ?_
    refine ⟨?_, rfl⟩
    unfold bi mDone
    rw [e6] at h12
    simp [h12]
  · refine q_iconst (pc := 15) dX8_isDone_15 ?_
    refine q_goto (pc := 16) (tgt := 20) dX8_isDone_16 (by decide) ?_
    refine q_rz (pc := 20) dX8_isDone_20 rfl (by first | exact bi_01 _ | omega) ?_
    refine ⟨?_, rfl⟩
    unfold bi mDone
    rw [e6] at h12
    simp [h12]
theorem t_X8_layThen_l (hf : RwR σ 86 f) : ∀ (m t : Nat) (σ' : qM), m + t = 34 → Fr σ σ' [88] → (∀ j, 0 ≤ j → j < (t : Int) → σ' 88 j = f j) → qE G mX8_layThen d 2 [(1, vi t), (0, vr 82)] [] σ' (rv fun σ1 => Fr σ σ1 [88] ∧ RwR σ1 88 f) := by
  intro m
  induction m with
  | zero =>
    intro t σ' ht hF hc
    refine q_iload_n (pc := 2) dX8_layThen_2 rfl ?_
    refine q_bipush (pc := 3) dX8_layThen_3 (by decide +kernel) ?_
    refine q_icmpge (pc := 5) (tgt := 26) dX8_layThen_5 (by decide) (by omega) (by omega) (fun h5 => ?_) (fun h => absurd h (by omega))
    refine q_rv (pc := 26) dX8_layThen_26 rfl ?_
    exact ⟨hF, fun j h0 h1 => hc j h0 (by omega)⟩
  | succ m ih =>
    intro t σ' ht hF hc
    have e := hf t (by omega) (by omega)
    refine q_iload_n (pc := 2) dX8_layThen_2 rfl ?_
    refine q_bipush (pc := 3) dX8_layThen_3 (by decide +kernel) ?_
    refine q_icmpge (pc := 5) (tgt := 26) dX8_layThen_5 (by decide) (by omega) (by omega) (fun h => absurd h (by omega)) (fun h5 => ?_)
    refine q_aload_n (pc := 8) dX8_layThen_8 rfl ?_
    refine q_getR (pc := 9) dX8_layThen_9 fX8_25 rfl rfl ?_
    refine q_iload_n (pc := 12) dX8_layThen_12 rfl ?_
    refine q_aload_n (pc := 13) dX8_layThen_13 rfl ?_
    refine q_getR (pc := 14) dX8_layThen_14 fX8_19 rfl rfl ?_
    refine q_iload_n (pc := 17) dX8_layThen_17 rfl ?_
    refine q_iald (pc := 18) dX8_layThen_18 rfl (by omega) ?_
    refine q_iast (pc := 19) dX8_layThen_19 rfl (by omega) ?_
    refine q_iinc (pc := 20) dX8_layThen_20 rfl (Nat.le_of_ble_eq_true rfl) ?_
    refine q_goto (pc := 23) (tgt := 2) dX8_layThen_23 (by decide) ?_
    refine ih (t + 1) _ (by omega) (hF.tt (Fr.up (by simp))) (fun j h0 h1 => ?_)
    rw [up_same]
    by_cases q : j = t
    · rw [if_pos q, q, hF 86 (by decide), e]
    · rw [if_neg q]
      exact hc j h0 (by omega)
theorem t_X8_layThen (hf : RwR σ 86 f) : qE G mX8_layThen d 0 [(0, vr 82)] [] σ (rv fun σ1 => Fr σ σ1 [88] ∧ RwR σ1 88 f) := by
  refine q_iconst (pc := 0) dX8_layThen_0 ?_
  refine q_istore_n (pc := 1) dX8_layThen_1 (Nat.le_of_ble_eq_true rfl) ?_
  exact t_X8_layThen_l hf 34 0 σ rfl Fr.rf (fun j h0 h1 => by omega)
end T8
