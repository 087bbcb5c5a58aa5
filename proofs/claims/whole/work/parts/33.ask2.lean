/-! ===== the reference: ask ===== -/
section T8
variable {G : qGl} {d : Nat} {σ : qM} {A : qA}
theorem MR.tr {σ1 : qM} {t : (Int → Int) × Int} (h : MR σ A) (hF : Fr σ σ1 [82, 95]) (h8 : ∀ i, i ≠ 24 → σ1 82 i = σ 82 i) (h1 : σ1 82 24 = t.2) (h2 : ∀ j, 0 ≤ j → j < t.2 → σ1 95 j = t.1 j) : MR σ1 (aTr A t) := by
  have e : ∀ j : Nat, j ≠ 82 → j ≠ 95 → σ1 j = σ j := fun j a b => hF j (by simp; omega)
  obtain ⟨m1, m2, m3, m4, m5, m6, m7, m8⟩ := h
  unfold MR RwR AcM ShM
  rw [e 83 (by omega) (by omega), e 84 (by omega) (by omega), e 85 (by omega) (by omega), e 86 (by omega) (by omega), e 89 (by omega) (by omega), e 90 (by omega) (by omega), e 93 (by omega) (by omega), e 94 (by omega) (by omega), h8 1 (by omega), h8 9 (by omega), h8 11 (by omega), h8 18 (by omega)]
  exact ⟨m1, m2, m3, m4, m5, m6, m7, h1, h2⟩
theorem t_X8_began {b : Int} (hM : MR σ A) (hV : AV A) : qE G mX8_began d 0 [(0, vr 82), (1, vi b)] [] σ (rv fun σ1 => Fr σ σ1 [82, 95] ∧ MR σ1 (aTr A (tP A.2.2.2.2.2.2.2 b))) := by
  have e1 := hM.2.2.2.2.2.2.2.1
  have e2 := hM.2.2.2.2.2.2.2.2
  have v := hV.2.2.2.2.2.2.2.1
  refine q_aload_n (pc := 0) dX8_began_0 rfl ?_
  refine q_gI (pc := 1) 24 dX8_began_1 fX8_268 rfl rfl rfl ?_
  refine q_bipush (pc := 4) dX8_began_4 (by decide +kernel) ?_
  refine q_icmpge (pc := 6) (tgt := 29) dX8_began_6 (by decide) (by omega) (by omega) (fun h6 => ?_) (fun h6 => ?_)
  · refine q_rv (pc := 29) dX8_began_29 rfl ?_
    first
    | (refine ⟨Fr.rf, ?_⟩
       have e3 : tP A.2.2.2.2.2.2.2 b = A.2.2.2.2.2.2.2 := by unfold tP; exact if_neg (by omega)
       rw [e3]
       exact hM.tr Fr.rf (fun _ _ => rfl) e1 e2)
    | (have hF : Fr σ (up (up σ 95 (σ 82 24) b) 82 24 (up σ 95 (σ 82 24) b 82 24 + 1)) [82, 95] := Fr.tt (Fr.up (by simp)) (Fr.up (by simp))
       refine ⟨hF, ?_⟩
       have e3 : tP A.2.2.2.2.2.2.2 b = (u1 A.2.2.2.2.2.2.2.1 A.2.2.2.2.2.2.2.2 b, A.2.2.2.2.2.2.2.2 + 1) := by unfold tP; exact if_pos (by omega)
       rw [e3]
       refine hM.tr hF (fun i hi => by rw [up_same, if_neg hi, up_ne (by omega)]) (by rw [up_same, if_pos rfl, up_ne (by omega), e1]) (fun j h0 h1 => ?_)
       have h1 : j < A.2.2.2.2.2.2.2.2 + 1 := h1
       rw [up_ne (by omega), up_same, e1]
       show _ = u1 _ _ b j
       unfold u1
       by_cases c : j = A.2.2.2.2.2.2.2.2
       · rw [if_pos c, if_pos c]
       · rw [if_neg c, if_neg c]; exact e2 j h0 (by omega))
  · refine q_aload_n (pc := 9) dX8_began_9 rfl ?_
    refine q_getR (pc := 10) dX8_began_10 fX8_47 rfl rfl ?_
    refine q_aload_n (pc := 13) dX8_began_13 rfl ?_
    refine q_gI (pc := 14) 24 dX8_began_14 fX8_268 rfl rfl rfl ?_
    refine q_iload_n (pc := 17) dX8_began_17 rfl ?_
    refine q_iast (pc := 18) dX8_began_18 rfl (by omega) ?_
    refine q_aload_n (pc := 19) dX8_began_19 rfl ?_
    refine q_dup (pc := 20) dX8_began_20 rfl ?_
    refine q_gI (pc := 21) 24 dX8_began_21 fX8_268 rfl rfl rfl ?_
    refine q_iconst (pc := 24) dX8_began_24 ?_
    refine q_iadd (pc := 25) dX8_began_25 ?_
    refine q_pI (pc := 26) 24 dX8_began_26 wX8_268 rfl rfl rfl ?_
    refine q_rv (pc := 29) dX8_began_29 rfl ?_
    first
    | (refine ⟨Fr.rf, ?_⟩
       have e3 : tP A.2.2.2.2.2.2.2 b = A.2.2.2.2.2.2.2 := by unfold tP; exact if_neg (by omega)
       rw [e3]
       exact hM.tr Fr.rf (fun _ _ => rfl) e1 e2)
    | (have hF : Fr σ (up (up σ 95 (σ 82 24) b) 82 24 (up σ 95 (σ 82 24) b 82 24 + 1)) [82, 95] := Fr.tt (Fr.up (by simp)) (Fr.up (by simp))
       refine ⟨hF, ?_⟩
       have e3 : tP A.2.2.2.2.2.2.2 b = (u1 A.2.2.2.2.2.2.2.1 A.2.2.2.2.2.2.2.2 b, A.2.2.2.2.2.2.2.2 + 1) := by unfold tP; exact if_pos (by omega)
       rw [e3]
       refine hM.tr hF (fun i hi => by rw [up_same, if_neg hi, up_ne (by omega)]) (by rw [up_same, if_pos rfl, up_ne (by omega), e1]) (fun j h0 h1 => ?_)
       have h1 : j < A.2.2.2.2.2.2.2.2 + 1 := h1
       rw [up_ne (by omega), up_same, e1]
       show _ = u1 _ _ b j
       unfold u1
       by_cases c : j = A.2.2.2.2.2.2.2.2
       · rw [if_pos c, if_pos c]
       · rw [if_neg c, if_neg c]; exact e2 j h0 (by omega))
abbrev bM (σ : qM) (A : qA) (v : Int) (l : List Int) : Option qV → qM → Prop := ri fun r σ1 => v = r ∧ Fr σ σ1 [82, 95] ∧ MR σ1 (aTr A (tL A.2.2.2.2.2.2.2 l))
theorem t_X8_plainSize {i : Int} (hM : MR σ A) (hV : AV A) (hi : 0 ≤ i ∧ i < A.1 5) : qE G mX8_plainSize (d + 1) 0 [(0, vr 82), (1, vi i)] [] σ (bM σ A (A.1 (15 + 3 * i)) [10]) := by
  have h5 := hV.1.de
  refine q_aload_n (pc := 0) dX8_plainSize_0 rfl ?_
  refine q_bipush (pc := 1) dX8_plainSize_1 (by decide +kernel) ?_
  refine q_V1v (pc := 3) dX8_plainSize_3 vX8_271 rfl rfl (Nat.le_of_ble_eq_true rfl) (Nat.le_of_ble_eq_true rfl) (t_X8_began hM hV) (fun σ1 hc1 => ?_)
  obtain ⟨hF1, hM1⟩ := hc1
  refine q_aload_n (pc := 6) dX8_plainSize_6 rfl ?_
  refine q_getR (pc := 7) dX8_plainSize_7 fX8_19 rfl rfl ?_
  refine q_iload_n (pc := 10) dX8_plainSize_10 rfl ?_
  refine q_iconst (pc := 11) dX8_plainSize_11 ?_
  refine q_S3i (pc := 12) dX8_plainSize_12 vX8_172 (Nat.le_of_ble_eq_true rfl) (Nat.le_of_ble_eq_true rfl) (t_X8_of sh86 hM1.1 (by omega) (by omega)) (fun r2 σ2 hc2 => ?_)
  obtain ⟨rfl, rfl⟩ := hc2
  refine q_ri (pc := 15) dX8_plainSize_15 rfl ?_
  exact ⟨congrArg A.1 (by omega), hF1, hM1⟩
theorem t_X8_woundSize {i : Int} (hM : MR σ A) (hV : AV A) (hi : 0 ≤ i ∧ i < A.1 5) : qE G mX8_woundSize (d + 2) 0 [(0, vr 82), (1, vi i)] [] σ (bM σ A (mWd A.1 i) (lW (A.1 (13 + 3 * i)))) := by
  have h5 := hV.1.de
  have hk := (hV.1.d hi.1 hi.2).1
  have ek : A.1 (13 + 3 * i + 0) = A.1 (13 + 3 * i) := congrArg A.1 (by omega)
  rcases (show A.1 (13 + 3 * i) = 5 ∨ A.1 (13 + 3 * i) ≠ 5 by omega) with c | c
  · rw [show mWd A.1 i = 2 * (A.1 (15 + 3 * i) - 100) by unfold mWd; exact if_pos c, show lW (A.1 (13 + 3 * i)) = [14, 13, 10] by unfold lW; exact if_pos c]
    have hV1 := hV.tp (b := 14) (by omega)
    have hV2 := hV1.tp (b := 13) (by omega)
    refine q_aload_n (pc := 0) dX8_woundSize_0 rfl ?_
    refine q_getR (pc := 1) dX8_woundSize_1 fX8_19 rfl rfl ?_
    refine q_iload_n (pc := 4) dX8_woundSize_4 rfl ?_
    refine q_iconst (pc := 5) dX8_woundSize_5 ?_
    refine q_S3i (pc := 6) dX8_woundSize_6 vX8_172 (Nat.le_of_ble_eq_true rfl) (Nat.le_of_ble_eq_true rfl) (t_X8_of sh86 hM.1 (by omega) (by omega)) (fun r1 σ1 hc1 => ?_)
    obtain ⟨rfl, rfl⟩ := hc1
    refine q_iconst (pc := 9) dX8_woundSize_9 ?_
    refine q_icmpne (pc := 10) (tgt := 17) dX8_woundSize_10 (by decide) (by omega) (by omega) (fun h => absurd h (by omega)) (fun h10 => ?_)
    refine q_iconst (pc := 13) dX8_woundSize_13 ?_
    refine q_goto (pc := 14) (tgt := 18) dX8_woundSize_14 (by decide) ?_
    refine q_istore_n (pc := 18) dX8_woundSize_18 (Nat.le_of_ble_eq_true rfl) ?_
    refine q_iload_n (pc := 19) dX8_woundSize_19 rfl ?_
    refine q_ifeq (pc := 20) (tgt := 29) dX8_woundSize_20 (by decide) (by omega) (fun h => absurd h (by omega)) (fun h20 => ?_)
    refine q_aload_n (pc := 23) dX8_woundSize_23 rfl ?_
    refine q_bipush (pc := 24) dX8_woundSize_24 (by decide +kernel) ?_
    refine q_V1v (pc := 26) dX8_woundSize_26 vX8_271 rfl rfl (Nat.le_of_ble_eq_true rfl) (Nat.le_of_ble_eq_true rfl) (t_X8_began hM hV) (fun σ2 hc2 => ?_)
    obtain ⟨hF2, hM2⟩ := hc2
    refine q_aload_n (pc := 29) dX8_woundSize_29 rfl ?_
    refine q_bipush (pc := 30) dX8_woundSize_30 (by decide +kernel) ?_
    refine q_V1v (pc := 32) dX8_woundSize_32 vX8_271 rfl rfl (Nat.le_of_ble_eq_true rfl) (Nat.le_of_ble_eq_true rfl) (t_X8_began hM2 hV1) (fun σ3 hc3 => ?_)
    obtain ⟨hF3, hM3⟩ := hc3
    refine q_aload_n (pc := 35) dX8_woundSize_35 rfl ?_
    refine q_iload_n (pc := 36) dX8_woundSize_36 rfl ?_
    refine q_V1i (pc := 37) dX8_woundSize_37 vX8_274 rfl rfl (Nat.le_of_ble_eq_true rfl) (Nat.le_of_ble_eq_true rfl) (t_X8_plainSize hM3 hV2 hi) (fun r4 σ4 hc4 => ?_)
    obtain ⟨rfl, hF4, hM4⟩ := hc4
    refine q_bipush (pc := 40) dX8_woundSize_40 (by decide +kernel) ?_
    refine q_isub (pc := 42) dX8_woundSize_42 ?_
    refine q_istore_n (pc := 43) dX8_woundSize_43 (Nat.le_of_ble_eq_true rfl) ?_
    refine q_iload_n (pc := 44) dX8_woundSize_44 rfl ?_
    refine q_ifeq (pc := 45) (tgt := 54) dX8_woundSize_45 (by decide) (by omega) (fun h => absurd h (by omega)) (fun h45 => ?_)
    refine q_iconst (pc := 48) dX8_woundSize_48 ?_
    refine q_iload_n (pc := 49) dX8_woundSize_49 rfl ?_
    refine q_imul (pc := 50) dX8_woundSize_50 ?_
    refine q_goto (pc := 51) (tgt := 55) dX8_woundSize_51 (by decide) ?_
    refine q_ri (pc := 55) dX8_woundSize_55 rfl ?_
    exact ⟨rfl, (hF2.tt hF3).tt hF4, hM4⟩
  · rw [show mWd A.1 i = A.1 (15 + 3 * i) - 100 by unfold mWd; exact if_neg c, show lW (A.1 (13 + 3 * i)) = [13, 10] by unfold lW; exact if_neg c]
    have hV1 := hV.tp (b := 13) (by omega)
    refine q_aload_n (pc := 0) dX8_woundSize_0 rfl ?_
    refine q_getR (pc := 1) dX8_woundSize_1 fX8_19 rfl rfl ?_
    refine q_iload_n (pc := 4) dX8_woundSize_4 rfl ?_
    refine q_iconst (pc := 5) dX8_woundSize_5 ?_
    refine q_S3i (pc := 6) dX8_woundSize_6 vX8_172 (Nat.le_of_ble_eq_true rfl) (Nat.le_of_ble_eq_true rfl) (t_X8_of sh86 hM.1 (by omega) (by omega)) (fun r1 σ1 hc1 => ?_)
    obtain ⟨rfl, rfl⟩ := hc1
    refine q_iconst (pc := 9) dX8_woundSize_9 ?_
    refine q_icmpne (pc := 10) (tgt := 17) dX8_woundSize_10 (by decide) (by omega) (by omega) (fun h10 => ?_) (fun h => absurd h (by omega))
    refine q_iconst (pc := 17) dX8_woundSize_17 ?_
    refine q_istore_n (pc := 18) dX8_woundSize_18 (Nat.le_of_ble_eq_true rfl) ?_
    refine q_iload_n (pc := 19) dX8_woundSize_19 rfl ?_
    refine q_ifeq (pc := 20) (tgt := 29) dX8_woundSize_20 (by decide) (by omega) (fun h20 => ?_) (fun h => absurd h (by omega))
    refine q_aload_n (pc := 29) dX8_woundSize_29 rfl ?_
    refine q_bipush (pc := 30) dX8_woundSize_30 (by decide +kernel) ?_
    refine q_V1v (pc := 32) dX8_woundSize_32 vX8_271 rfl rfl (Nat.le_of_ble_eq_true rfl) (Nat.le_of_ble_eq_true rfl) (t_X8_began hM hV) (fun σ2 hc2 => ?_)
    obtain ⟨hF2, hM2⟩ := hc2
    refine q_aload_n (pc := 35) dX8_woundSize_35 rfl ?_
    refine q_iload_n (pc := 36) dX8_woundSize_36 rfl ?_
    refine q_V1i (pc := 37) dX8_woundSize_37 vX8_274 rfl rfl (Nat.le_of_ble_eq_true rfl) (Nat.le_of_ble_eq_true rfl) (t_X8_plainSize hM2 hV1 hi) (fun r3 σ3 hc3 => ?_)
    obtain ⟨rfl, hF3, hM3⟩ := hc3
    refine q_bipush (pc := 40) dX8_woundSize_40 (by decide +kernel) ?_
    refine q_isub (pc := 42) dX8_woundSize_42 ?_
    refine q_istore_n (pc := 43) dX8_woundSize_43 (Nat.le_of_ble_eq_true rfl) ?_
    refine q_iload_n (pc := 44) dX8_woundSize_44 rfl ?_
    refine q_ifeq (pc := 45) (tgt := 54) dX8_woundSize_45 (by decide) (by omega) (fun h45 => ?_) (fun h => absurd h (by omega))
    refine q_iload_n (pc := 54) dX8_woundSize_54 rfl ?_
    refine q_ri (pc := 55) dX8_woundSize_55 rfl ?_
    exact ⟨rfl, hF2.tt hF3, hM3⟩
theorem t_X8_markOf {i : Int} (hM : MR σ A) (hV : AV A) (hi : 0 ≤ i ∧ i < A.1 5) : qE G mX8_markOf (d + 3) 0 [(0, vr 82), (1, vi i)] [] σ (bM σ A (mMk A.1 i) (lM (A.1 (13 + 3 * i)))) := by
  have h5 := hV.1.de
  have hd := hV.1.d hi.1 hi.2
  have hk := hd.1
  have hk2 := hd.2.1
  have ek : A.1 (13 + 3 * i + 0) = A.1 (13 + 3 * i) := congrArg A.1 (by omega)
  have ef : A.1 (13 + 3 * i + 1) = A.1 (14 + 3 * i) := congrArg A.1 (by omega)
  rcases (show 4 ≤ A.1 (13 + 3 * i) ∨ A.1 (13 + 3 * i) = 1 ∨ A.1 (13 + 3 * i) = 2 ∨ A.1 (13 + 3 * i) = 3 by omega) with c | c | c | c
  · rw [show mMk A.1 i = i - mWd A.1 i by unfold mMk; exact if_pos c, show lM (A.1 (13 + 3 * i)) = 23 :: 20 :: lW (A.1 (13 + 3 * i)) by unfold lM; exact if_pos c]
    have hV1 := hV.tp (b := 23) (by omega)
    have hV2 := hV1.tp (b := 20) (by omega)
    refine q_aload_n (pc := 0) dX8_markOf_0 rfl ?_
    refine q_getR (pc := 1) dX8_markOf_1 fX8_19 rfl rfl ?_
    refine q_iload_n (pc := 4) dX8_markOf_4 rfl ?_
    refine q_iconst (pc := 5) dX8_markOf_5 ?_
    refine q_S3i (pc := 6) dX8_markOf_6 vX8_172 (Nat.le_of_ble_eq_true rfl) (Nat.le_of_ble_eq_true rfl) (t_X8_of sh86 hM.1 (by omega) (by omega)) (fun r1 σ1 hc1 => ?_)
    obtain ⟨rfl, rfl⟩ := hc1
    refine q_istore_n (pc := 9) dX8_markOf_9 (Nat.le_of_ble_eq_true rfl) ?_
    refine q_iload_n (pc := 10) dX8_markOf_10 rfl ?_
    refine q_iconst (pc := 11) dX8_markOf_11 ?_
    refine q_icmplt (pc := 12) (tgt := 35) dX8_markOf_12 (by decide) (by omega) (by omega) (fun h => absurd h (by omega)) (fun h12 => ?_)
    refine q_aload_n (pc := 15) dX8_markOf_15 rfl ?_
    refine q_bipush (pc := 16) dX8_markOf_16 (by decide +kernel) ?_
    refine q_V1v (pc := 18) dX8_markOf_18 vX8_271 rfl rfl (Nat.le_of_ble_eq_true rfl) (Nat.le_of_ble_eq_true rfl) (t_X8_began hM hV) (fun σ2 hc2 => ?_)
    obtain ⟨hF2, hM2⟩ := hc2
    refine q_aload_n (pc := 21) dX8_markOf_21 rfl ?_
    refine q_bipush (pc := 22) dX8_markOf_22 (by decide +kernel) ?_
    refine q_V1v (pc := 24) dX8_markOf_24 vX8_271 rfl rfl (Nat.le_of_ble_eq_true rfl) (Nat.le_of_ble_eq_true rfl) (t_X8_began hM2 hV1) (fun σ3 hc3 => ?_)
    obtain ⟨hF3, hM3⟩ := hc3
    refine q_iload_n (pc := 27) dX8_markOf_27 rfl ?_
    refine q_aload_n (pc := 28) dX8_markOf_28 rfl ?_
    refine q_iload_n (pc := 29) dX8_markOf_29 rfl ?_
    refine q_V1i (pc := 30) dX8_markOf_30 vX8_277 rfl rfl (Nat.le_of_ble_eq_true rfl) (Nat.le_of_ble_eq_true rfl) (t_X8_woundSize hM3 hV2 hi) (fun r4 σ4 hc4 => ?_)
    obtain ⟨rfl, hF4, hM4⟩ := hc4
    refine q_isub (pc := 33) dX8_markOf_33 ?_
    refine q_ri (pc := 34) dX8_markOf_34 rfl ?_
    exact ⟨rfl, (hF2.tt hF3).tt hF4, hM4⟩
  · rw [show mMk A.1 i = mM3 A.1 i by unfold mMk; rw [c] <;> rfl, show lM (A.1 (13 + 3 * i)) = [21, 20] by rw [c] <;> rfl]
    have hV1 := hV.tp (b := 21) (by omega)
    refine q_aload_n (pc := 0) dX8_markOf_0 rfl ?_
    refine q_getR (pc := 1) dX8_markOf_1 fX8_19 rfl rfl ?_
    refine q_iload_n (pc := 4) dX8_markOf_4 rfl ?_
    refine q_iconst (pc := 5) dX8_markOf_5 ?_
    refine q_S3i (pc := 6) dX8_markOf_6 vX8_172 (Nat.le_of_ble_eq_true rfl) (Nat.le_of_ble_eq_true rfl) (t_X8_of sh86 hM.1 (by omega) (by omega)) (fun r1 σ1 hc1 => ?_)
    obtain ⟨rfl, rfl⟩ := hc1
    refine q_istore_n (pc := 9) dX8_markOf_9 (Nat.le_of_ble_eq_true rfl) ?_
    refine q_iload_n (pc := 10) dX8_markOf_10 rfl ?_
    refine q_iconst (pc := 11) dX8_markOf_11 ?_
    refine q_icmplt (pc := 12) (tgt := 35) dX8_markOf_12 (by decide) (by omega) (by omega) (fun h12 => ?_) (fun h => absurd h (by omega))
    refine q_iload_n (pc := 35) dX8_markOf_35 rfl ?_
    refine q_iconst (pc := 36) dX8_markOf_36 ?_
    refine q_icmpeq (pc := 37) (tgt := 56) dX8_markOf_37 (by decide) (by omega) (by omega) (fun h37 => ?_) (fun h => absurd h (by omega))
    refine q_aload_n (pc := 56) dX8_markOf_56 rfl ?_
    refine q_bipush (pc := 57) dX8_markOf_57 (by decide +kernel) ?_
    refine q_V1v (pc := 59) dX8_markOf_59 vX8_271 rfl rfl (Nat.le_of_ble_eq_true rfl) (Nat.le_of_ble_eq_true rfl) (t_X8_began hM hV) (fun σ2 hc2 => ?_)
    obtain ⟨hF2, hM2⟩ := hc2
    refine q_aload_n (pc := 62) dX8_markOf_62 rfl ?_
    refine q_bipush (pc := 63) dX8_markOf_63 (by decide +kernel) ?_
    refine q_V1v (pc := 65) dX8_markOf_65 vX8_271 rfl rfl (Nat.le_of_ble_eq_true rfl) (Nat.le_of_ble_eq_true rfl) (t_X8_began hM2 hV1) (fun σ3 hc3 => ?_)
    obtain ⟨hF3, hM3⟩ := hc3
    refine q_iload_n (pc := 68) dX8_markOf_68 rfl ?_
    refine q_aload_n (pc := 69) dX8_markOf_69 rfl ?_
    refine q_getR (pc := 70) dX8_markOf_70 fX8_19 rfl rfl ?_
    refine q_bipush (pc := 73) dX8_markOf_73 (by decide +kernel) ?_
    refine q_aload_n (pc := 75) dX8_markOf_75 rfl ?_
    refine q_getR (pc := 76) dX8_markOf_76 fX8_19 rfl rfl ?_
    refine q_iload_n (pc := 79) dX8_markOf_79 rfl ?_
    refine q_iconst (pc := 80) dX8_markOf_80 ?_
    refine q_S3i (pc := 81) dX8_markOf_81 vX8_172 (Nat.le_of_ble_eq_true rfl) (Nat.le_of_ble_eq_true rfl) (t_X8_of (f := A.1) sh86 hM3.1 (by omega) (by omega)) (fun r4 σ4 hc4 => ?_)
    obtain ⟨rfl, rfl⟩ := hc4
    refine q_iadd (pc := 84) dX8_markOf_84 ?_
    refine q_iald (pc := 85) dX8_markOf_85 rfl (by omega) ?_
    refine q_iadd (pc := 86) dX8_markOf_86 ?_
    refine q_istore_n (pc := 87) dX8_markOf_87 (Nat.le_of_ble_eq_true rfl) ?_
    refine q_iload_n (pc := 88) dX8_markOf_88 rfl ?_
    refine q_iconst (pc := 89) dX8_markOf_89 ?_
    refine q_icmpne (pc := 90) (tgt := 97) dX8_markOf_90 (by decide) (by omega) (by omega) (fun h => absurd h (by omega)) (fun h90 => ?_)
    refine q_iload_n (pc := 93) dX8_markOf_93 rfl ?_
    refine q_goto (pc := 94) (tgt := 113) dX8_markOf_94 (by decide) ?_
    refine q_ri (pc := 113) dX8_markOf_113 rfl ?_
    exact ⟨by rw [hM3.1 (7 + A.1 (13 + 3 * i + 1)) (by omega) (by omega)]; unfold mM3; rw [← ef]; rfl, hF2.tt hF3, hM3⟩
  · rw [show mMk A.1 i = 2*mM3 A.1 i by unfold mMk; rw [c] <;> rfl, show lM (A.1 (13 + 3 * i)) = [24, 21, 20] by rw [c] <;> rfl]
    have hV0 := hV.tp (b := 24) (by omega)
    have hV1 := hV0.tp (b := 21) (by omega)
    refine q_aload_n (pc := 0) dX8_markOf_0 rfl ?_
    refine q_getR (pc := 1) dX8_markOf_1 fX8_19 rfl rfl ?_
    refine q_iload_n (pc := 4) dX8_markOf_4 rfl ?_
    refine q_iconst (pc := 5) dX8_markOf_5 ?_
    refine q_S3i (pc := 6) dX8_markOf_6 vX8_172 (Nat.le_of_ble_eq_true rfl) (Nat.le_of_ble_eq_true rfl) (t_X8_of sh86 hM.1 (by omega) (by omega)) (fun r1 σ1 hc1 => ?_)
    obtain ⟨rfl, rfl⟩ := hc1
    refine q_istore_n (pc := 9) dX8_markOf_9 (Nat.le_of_ble_eq_true rfl) ?_
    refine q_iload_n (pc := 10) dX8_markOf_10 rfl ?_
    refine q_iconst (pc := 11) dX8_markOf_11 ?_
    refine q_icmplt (pc := 12) (tgt := 35) dX8_markOf_12 (by decide) (by omega) (by omega) (fun h12 => ?_) (fun h => absurd h (by omega))
    refine q_iload_n (pc := 35) dX8_markOf_35 rfl ?_
    refine q_iconst (pc := 36) dX8_markOf_36 ?_
    refine q_icmpeq (pc := 37) (tgt := 56) dX8_markOf_37 (by decide) (by omega) (by omega) (fun h => absurd h (by omega)) (fun h37 => ?_)
    refine q_aload_n (pc := 40) dX8_markOf_40 rfl ?_
    refine q_iload_n (pc := 41) dX8_markOf_41 rfl ?_
    refine q_iconst (pc := 42) dX8_markOf_42 ?_
    refine q_icmpne (pc := 43) (tgt := 51) dX8_markOf_43 (by decide) (by omega) (by omega) (fun h43 => ?_) (fun h => absurd h (by omega))
    refine q_bipush (pc := 51) dX8_markOf_51 (by decide +kernel) ?_
    refine q_V1v (pc := 53) dX8_markOf_53 vX8_271 rfl rfl (Nat.le_of_ble_eq_true rfl) (Nat.le_of_ble_eq_true rfl) (t_X8_began hM hV) (fun σ2 hc2 => ?_)
    obtain ⟨hF2, hM2⟩ := hc2
    refine q_aload_n (pc := 56) dX8_markOf_56 rfl ?_
    refine q_bipush (pc := 57) dX8_markOf_57 (by decide +kernel) ?_
    refine q_V1v (pc := 59) dX8_markOf_59 vX8_271 rfl rfl (Nat.le_of_ble_eq_true rfl) (Nat.le_of_ble_eq_true rfl) (t_X8_began hM2 hV0) (fun σ3 hc3 => ?_)
    obtain ⟨hF3, hM3⟩ := hc3
    refine q_aload_n (pc := 62) dX8_markOf_62 rfl ?_
    refine q_bipush (pc := 63) dX8_markOf_63 (by decide +kernel) ?_
    refine q_V1v (pc := 65) dX8_markOf_65 vX8_271 rfl rfl (Nat.le_of_ble_eq_true rfl) (Nat.le_of_ble_eq_true rfl) (t_X8_began hM3 hV1) (fun σ4 hc4 => ?_)
    obtain ⟨hF4, hM4⟩ := hc4
    refine q_iload_n (pc := 68) dX8_markOf_68 rfl ?_
    refine q_aload_n (pc := 69) dX8_markOf_69 rfl ?_
    refine q_getR (pc := 70) dX8_markOf_70 fX8_19 rfl rfl ?_
    refine q_bipush (pc := 73) dX8_markOf_73 (by decide +kernel) ?_
    refine q_aload_n (pc := 75) dX8_markOf_75 rfl ?_
    refine q_getR (pc := 76) dX8_markOf_76 fX8_19 rfl rfl ?_
    refine q_iload_n (pc := 79) dX8_markOf_79 rfl ?_
    refine q_iconst (pc := 80) dX8_markOf_80 ?_
    refine q_S3i (pc := 81) dX8_markOf_81 vX8_172 (Nat.le_of_ble_eq_true rfl) (Nat.le_of_ble_eq_true rfl) (t_X8_of (f := A.1) sh86 hM4.1 (by omega) (by omega)) (fun r5 σ5 hc5 => ?_)
    obtain ⟨rfl, rfl⟩ := hc5
    refine q_iadd (pc := 84) dX8_markOf_84 ?_
    refine q_iald (pc := 85) dX8_markOf_85 rfl (by omega) ?_
    refine q_iadd (pc := 86) dX8_markOf_86 ?_
    refine q_istore_n (pc := 87) dX8_markOf_87 (Nat.le_of_ble_eq_true rfl) ?_
    refine q_iload_n (pc := 88) dX8_markOf_88 rfl ?_
    refine q_iconst (pc := 89) dX8_markOf_89 ?_
    refine q_icmpne (pc := 90) (tgt := 97) dX8_markOf_90 (by decide) (by omega) (by omega) (fun h90 => ?_) (fun h => absurd h (by omega))
    refine q_iload_n (pc := 97) dX8_markOf_97 rfl ?_
    refine q_iconst (pc := 98) dX8_markOf_98 ?_
    refine q_icmpne (pc := 99) (tgt := 110) dX8_markOf_99 (by decide) (by omega) (by omega) (fun h99 => ?_) (fun h => absurd h (by omega))
    refine q_iconst (pc := 110) dX8_markOf_110 ?_
    refine q_iload_n (pc := 111) dX8_markOf_111 rfl ?_
    refine q_imul (pc := 112) dX8_markOf_112 ?_
    refine q_ri (pc := 113) dX8_markOf_113 rfl ?_
    exact ⟨by rw [hM4.1 (7 + A.1 (13 + 3 * i + 1)) (by omega) (by omega)]; unfold mM3; rw [← ef]; rfl, (hF2.tt hF3).tt hF4, hM4⟩
  · rw [show mMk A.1 i = mM3 A.1 i - 1000 by unfold mMk; rw [c] <;> rfl, show lM (A.1 (13 + 3 * i)) = [22, 21, 20] by rw [c] <;> rfl]
    have hV0 := hV.tp (b := 22) (by omega)
    have hV1 := hV0.tp (b := 21) (by omega)
    refine q_aload_n (pc := 0) dX8_markOf_0 rfl ?_
    refine q_getR (pc := 1) dX8_markOf_1 fX8_19 rfl rfl ?_
    refine q_iload_n (pc := 4) dX8_markOf_4 rfl ?_
    refine q_iconst (pc := 5) dX8_markOf_5 ?_
    refine q_S3i (pc := 6) dX8_markOf_6 vX8_172 (Nat.le_of_ble_eq_true rfl) (Nat.le_of_ble_eq_true rfl) (t_X8_of sh86 hM.1 (by omega) (by omega)) (fun r1 σ1 hc1 => ?_)
    obtain ⟨rfl, rfl⟩ := hc1
    refine q_istore_n (pc := 9) dX8_markOf_9 (Nat.le_of_ble_eq_true rfl) ?_
    refine q_iload_n (pc := 10) dX8_markOf_10 rfl ?_
    refine q_iconst (pc := 11) dX8_markOf_11 ?_
    refine q_icmplt (pc := 12) (tgt := 35) dX8_markOf_12 (by decide) (by omega) (by omega) (fun h12 => ?_) (fun h => absurd h (by omega))
    refine q_iload_n (pc := 35) dX8_markOf_35 rfl ?_
    refine q_iconst (pc := 36) dX8_markOf_36 ?_
    refine q_icmpeq (pc := 37) (tgt := 56) dX8_markOf_37 (by decide) (by omega) (by omega) (fun h => absurd h (by omega)) (fun h37 => ?_)
    refine q_aload_n (pc := 40) dX8_markOf_40 rfl ?_
    refine q_iload_n (pc := 41) dX8_markOf_41 rfl ?_
    refine q_iconst (pc := 42) dX8_markOf_42 ?_
    refine q_icmpne (pc := 43) (tgt := 51) dX8_markOf_43 (by decide) (by omega) (by omega) (fun h => absurd h (by omega)) (fun h43 => ?_)
    refine q_bipush (pc := 46) dX8_markOf_46 (by decide +kernel) ?_
    refine q_goto (pc := 48) (tgt := 53) dX8_markOf_48 (by decide) ?_
    refine q_V1v (pc := 53) dX8_markOf_53 vX8_271 rfl rfl (Nat.le_of_ble_eq_true rfl) (Nat.le_of_ble_eq_true rfl) (t_X8_began hM hV) (fun σ2 hc2 => ?_)
    obtain ⟨hF2, hM2⟩ := hc2
    refine q_aload_n (pc := 56) dX8_markOf_56 rfl ?_
    refine q_bipush (pc := 57) dX8_markOf_57 (by decide +kernel) ?_
    refine q_V1v (pc := 59) dX8_markOf_59 vX8_271 rfl rfl (Nat.le_of_ble_eq_true rfl) (Nat.le_of_ble_eq_true rfl) (t_X8_began hM2 hV0) (fun σ3 hc3 => ?_)
    obtain ⟨hF3, hM3⟩ := hc3
    refine q_aload_n (pc := 62) dX8_markOf_62 rfl ?_
    refine q_bipush (pc := 63) dX8_markOf_63 (by decide +kernel) ?_
    refine q_V1v (pc := 65) dX8_markOf_65 vX8_271 rfl rfl (Nat.le_of_ble_eq_true rfl) (Nat.le_of_ble_eq_true rfl) (t_X8_began hM3 hV1) (fun σ4 hc4 => ?_)
    obtain ⟨hF4, hM4⟩ := hc4
    refine q_iload_n (pc := 68) dX8_markOf_68 rfl ?_
    refine q_aload_n (pc := 69) dX8_markOf_69 rfl ?_
    refine q_getR (pc := 70) dX8_markOf_70 fX8_19 rfl rfl ?_
    refine q_bipush (pc := 73) dX8_markOf_73 (by decide +kernel) ?_
    refine q_aload_n (pc := 75) dX8_markOf_75 rfl ?_
    refine q_getR (pc := 76) dX8_markOf_76 fX8_19 rfl rfl ?_
    refine q_iload_n (pc := 79) dX8_markOf_79 rfl ?_
    refine q_iconst (pc := 80) dX8_markOf_80 ?_
    refine q_S3i (pc := 81) dX8_markOf_81 vX8_172 (Nat.le_of_ble_eq_true rfl) (Nat.le_of_ble_eq_true rfl) (t_X8_of (f := A.1) sh86 hM4.1 (by omega) (by omega)) (fun r5 σ5 hc5 => ?_)
    obtain ⟨rfl, rfl⟩ := hc5
    refine q_iadd (pc := 84) dX8_markOf_84 ?_
    refine q_iald (pc := 85) dX8_markOf_85 rfl (by omega) ?_
    refine q_iadd (pc := 86) dX8_markOf_86 ?_
    refine q_istore_n (pc := 87) dX8_markOf_87 (Nat.le_of_ble_eq_true rfl) ?_
    refine q_iload_n (pc := 88) dX8_markOf_88 rfl ?_
    refine q_iconst (pc := 89) dX8_markOf_89 ?_
    refine q_icmpne (pc := 90) (tgt := 97) dX8_markOf_90 (by decide) (by omega) (by omega) (fun h90 => ?_) (fun h => absurd h (by omega))
    refine q_iload_n (pc := 97) dX8_markOf_97 rfl ?_
    refine q_iconst (pc := 98) dX8_markOf_98 ?_
    refine q_icmpne (pc := 99) (tgt := 110) dX8_markOf_99 (by decide) (by omega) (by omega) (fun h => absurd h (by omega)) (fun h99 => ?_)
    refine q_iload_n (pc := 102) dX8_markOf_102 rfl ?_
    refine q_sipush (pc := 103) dX8_markOf_103 (by decide +kernel) ?_
    refine q_isub (pc := 106) dX8_markOf_106 ?_
    refine q_goto (pc := 107) (tgt := 113) dX8_markOf_107 (by decide) ?_
    refine q_ri (pc := 113) dX8_markOf_113 rfl ?_
    exact ⟨by rw [hM4.1 (7 + A.1 (13 + 3 * i + 1)) (by omega) (by omega)]; unfold mM3; rw [← ef]; rfl, (hF2.tt hF3).tt hF4, hM4⟩
theorem t_X8_sizeOf {i : Int} (hM : MR σ A) (hV : AV A) (hi : 0 ≤ i ∧ i < A.1 5) : qE G mX8_sizeOf (d + 4) 0 [(0, vr 82), (1, vi i)] [] σ (bM σ A (mSz A.1 i) (lS (A.1 (13 + 3 * i)))) := by
  have h5 := hV.1.de
  have hd := hV.1.d hi.1 hi.2
  have hk := hd.1
  have ek : A.1 (13 + 3 * i + 0) = A.1 (13 + 3 * i) := congrArg A.1 (by omega)
  rcases (show 4 ≤ A.1 (13 + 3 * i) ∨ A.1 (13 + 3 * i) = 2 ∨ (A.1 (13 + 3 * i) < 4 ∧ A.1 (13 + 3 * i) ≠ 2) by omega) with c | c | c
  · rw [show mSz A.1 i = mWd A.1 i by unfold mSz; exact if_pos c, show lS (A.1 (13 + 3 * i)) = lW (A.1 (13 + 3 * i)) by unfold lS; exact if_pos c]
    refine q_aload_n (pc := 0) dX8_sizeOf_0 rfl ?_
    refine q_getR (pc := 1) dX8_sizeOf_1 fX8_19 rfl rfl ?_
    refine q_iload_n (pc := 4) dX8_sizeOf_4 rfl ?_
    refine q_iconst (pc := 5) dX8_sizeOf_5 ?_
    refine q_S3i (pc := 6) dX8_sizeOf_6 vX8_172 (Nat.le_of_ble_eq_true rfl) (Nat.le_of_ble_eq_true rfl) (t_X8_of sh86 hM.1 (by omega) (by omega)) (fun r1 σ1 hc1 => ?_)
    obtain ⟨rfl, rfl⟩ := hc1
    refine q_istore_n (pc := 9) dX8_sizeOf_9 (Nat.le_of_ble_eq_true rfl) ?_
    refine q_iload_n (pc := 10) dX8_sizeOf_10 rfl ?_
    refine q_iconst (pc := 11) dX8_sizeOf_11 ?_
    refine q_icmplt (pc := 12) (tgt := 21) dX8_sizeOf_12 (by decide) (by omega) (by omega) (fun h => absurd h (by omega)) (fun h12 => ?_)
    refine q_aload_n (pc := 15) dX8_sizeOf_15 rfl ?_
    refine q_iload_n (pc := 16) dX8_sizeOf_16 rfl ?_
    refine q_V1i (pc := 17) dX8_sizeOf_17 vX8_277 rfl rfl (Nat.le_of_ble_eq_true rfl) (Nat.le_of_ble_eq_true rfl) (t_X8_woundSize hM hV hi) (fun r2 σ2 hc2 => ?_)
    obtain ⟨rfl, hF2, hM2⟩ := hc2
    refine q_ri (pc := 20) dX8_sizeOf_20 rfl ?_
    exact ⟨rfl, hF2, hM2⟩
  · rw [show mSz A.1 i = -(A.1 (15 + 3 * i) + mMk A.1 i) by unfold mSz; rw [if_neg (by omega)]; exact if_pos c, show lS (A.1 (13 + 3 * i)) = 12 :: 11 :: 10 :: lM (A.1 (13 + 3 * i)) by unfold lS; rw [if_neg (by omega)]; exact if_pos c]
    have hV1 := hV.tp (b := 12) (by omega)
    have hV2 := hV1.tp (b := 11) (by omega)
    have hV3 := hV2.tp (b := 10) (by omega)
    refine q_aload_n (pc := 0) dX8_sizeOf_0 rfl ?_
    refine q_getR (pc := 1) dX8_sizeOf_1 fX8_19 rfl rfl ?_
    refine q_iload_n (pc := 4) dX8_sizeOf_4 rfl ?_
    refine q_iconst (pc := 5) dX8_sizeOf_5 ?_
    refine q_S3i (pc := 6) dX8_sizeOf_6 vX8_172 (Nat.le_of_ble_eq_true rfl) (Nat.le_of_ble_eq_true rfl) (t_X8_of sh86 hM.1 (by omega) (by omega)) (fun r1 σ1 hc1 => ?_)
    obtain ⟨rfl, rfl⟩ := hc1
    refine q_istore_n (pc := 9) dX8_sizeOf_9 (Nat.le_of_ble_eq_true rfl) ?_
    refine q_iload_n (pc := 10) dX8_sizeOf_10 rfl ?_
    refine q_iconst (pc := 11) dX8_sizeOf_11 ?_
    refine q_icmplt (pc := 12) (tgt := 21) dX8_sizeOf_12 (by decide) (by omega) (by omega) (fun h12 => ?_) (fun h => absurd h (by omega))
    refine q_iload_n (pc := 21) dX8_sizeOf_21 rfl ?_
    refine q_iconst (pc := 22) dX8_sizeOf_22 ?_
    refine q_icmpne (pc := 23) (tgt := 32) dX8_sizeOf_23 (by decide) (by omega) (by omega) (fun h => absurd h (by omega)) (fun h23 => ?_)
    refine q_aload_n (pc := 26) dX8_sizeOf_26 rfl ?_
    refine q_bipush (pc := 27) dX8_sizeOf_27 (by decide +kernel) ?_
    refine q_V1v (pc := 29) dX8_sizeOf_29 vX8_271 rfl rfl (Nat.le_of_ble_eq_true rfl) (Nat.le_of_ble_eq_true rfl) (t_X8_began hM hV) (fun σ2 hc2 => ?_)
    obtain ⟨hF2, hM2⟩ := hc2
    refine q_aload_n (pc := 32) dX8_sizeOf_32 rfl ?_
    refine q_bipush (pc := 33) dX8_sizeOf_33 (by decide +kernel) ?_
    refine q_V1v (pc := 35) dX8_sizeOf_35 vX8_271 rfl rfl (Nat.le_of_ble_eq_true rfl) (Nat.le_of_ble_eq_true rfl) (t_X8_began hM2 hV1) (fun σ3 hc3 => ?_)
    obtain ⟨hF3, hM3⟩ := hc3
    refine q_aload_n (pc := 38) dX8_sizeOf_38 rfl ?_
    refine q_iload_n (pc := 39) dX8_sizeOf_39 rfl ?_
    refine q_V1i (pc := 40) dX8_sizeOf_40 vX8_274 rfl rfl (Nat.le_of_ble_eq_true rfl) (Nat.le_of_ble_eq_true rfl) (t_X8_plainSize hM3 hV2 hi) (fun r4 σ4 hc4 => ?_)
    obtain ⟨rfl, hF4, hM4⟩ := hc4
    refine q_istore_n (pc := 43) dX8_sizeOf_43 (Nat.le_of_ble_eq_true rfl) ?_
    refine q_iload_n (pc := 44) dX8_sizeOf_44 rfl ?_
    refine q_aload_n (pc := 45) dX8_sizeOf_45 rfl ?_
    refine q_iload_n (pc := 46) dX8_sizeOf_46 rfl ?_
    refine q_V1i (pc := 47) dX8_sizeOf_47 vX8_280 rfl rfl (Nat.le_of_ble_eq_true rfl) (Nat.le_of_ble_eq_true rfl) (t_X8_markOf hM4 hV3 hi) (fun r5 σ5 hc5 => ?_)
    obtain ⟨rfl, hF5, hM5⟩ := hc5
    refine q_iadd (pc := 50) dX8_sizeOf_50 ?_
    refine q_istore_n (pc := 51) dX8_sizeOf_51 (Nat.le_of_ble_eq_true rfl) ?_
    refine q_iload_n (pc := 52) dX8_sizeOf_52 rfl ?_
    refine q_iconst (pc := 53) dX8_sizeOf_53 ?_
    refine q_icmpne (pc := 54) (tgt := 62) dX8_sizeOf_54 (by decide) (by omega) (by omega) (fun h => absurd h (by omega)) (fun h54 => ?_)
    refine q_iload_n (pc := 57) dX8_sizeOf_57 rfl ?_
    refine q_ineg (pc := 58) dX8_sizeOf_58 ?_
    refine q_goto (pc := 59) (tgt := 63) dX8_sizeOf_59 (by decide) ?_
    refine q_ri (pc := 63) dX8_sizeOf_63 rfl ?_
    exact ⟨rfl, ((hF2.tt hF3).tt hF4).tt hF5, hM5⟩
  · rw [show mSz A.1 i = A.1 (15 + 3 * i) + mMk A.1 i by unfold mSz; rw [if_neg (by omega)]; exact if_neg c.2, show lS (A.1 (13 + 3 * i)) = 11 :: 10 :: lM (A.1 (13 + 3 * i)) by unfold lS; rw [if_neg (by omega)]; exact if_neg c.2]
    have hV2 := hV.tp (b := 11) (by omega)
    have hV3 := hV2.tp (b := 10) (by omega)
    refine q_aload_n (pc := 0) dX8_sizeOf_0 rfl ?_
    refine q_getR (pc := 1) dX8_sizeOf_1 fX8_19 rfl rfl ?_
    refine q_iload_n (pc := 4) dX8_sizeOf_4 rfl ?_
    refine q_iconst (pc := 5) dX8_sizeOf_5 ?_
    refine q_S3i (pc := 6) dX8_sizeOf_6 vX8_172 (Nat.le_of_ble_eq_true rfl) (Nat.le_of_ble_eq_true rfl) (t_X8_of sh86 hM.1 (by omega) (by omega)) (fun r1 σ1 hc1 => ?_)
    obtain ⟨rfl, rfl⟩ := hc1
    refine q_istore_n (pc := 9) dX8_sizeOf_9 (Nat.le_of_ble_eq_true rfl) ?_
    refine q_iload_n (pc := 10) dX8_sizeOf_10 rfl ?_
    refine q_iconst (pc := 11) dX8_sizeOf_11 ?_
    refine q_icmplt (pc := 12) (tgt := 21) dX8_sizeOf_12 (by decide) (by omega) (by omega) (fun h12 => ?_) (fun h => absurd h (by omega))
    refine q_iload_n (pc := 21) dX8_sizeOf_21 rfl ?_
    refine q_iconst (pc := 22) dX8_sizeOf_22 ?_
    refine q_icmpne (pc := 23) (tgt := 32) dX8_sizeOf_23 (by decide) (by omega) (by omega) (fun h23 => ?_) (fun h => absurd h (by omega))
    refine q_aload_n (pc := 32) dX8_sizeOf_32 rfl ?_
    refine q_bipush (pc := 33) dX8_sizeOf_33 (by decide +kernel) ?_
    refine q_V1v (pc := 35) dX8_sizeOf_35 vX8_271 rfl rfl (Nat.le_of_ble_eq_true rfl) (Nat.le_of_ble_eq_true rfl) (t_X8_began hM hV) (fun σ2 hc2 => ?_)
    obtain ⟨hF2, hM2⟩ := hc2
    refine q_aload_n (pc := 38) dX8_sizeOf_38 rfl ?_
    refine q_iload_n (pc := 39) dX8_sizeOf_39 rfl ?_
    refine q_V1i (pc := 40) dX8_sizeOf_40 vX8_274 rfl rfl (Nat.le_of_ble_eq_true rfl) (Nat.le_of_ble_eq_true rfl) (t_X8_plainSize hM2 hV2 hi) (fun r3 σ3 hc3 => ?_)
    obtain ⟨rfl, hF3, hM3⟩ := hc3
    refine q_istore_n (pc := 43) dX8_sizeOf_43 (Nat.le_of_ble_eq_true rfl) ?_
    refine q_iload_n (pc := 44) dX8_sizeOf_44 rfl ?_
    refine q_aload_n (pc := 45) dX8_sizeOf_45 rfl ?_
    refine q_iload_n (pc := 46) dX8_sizeOf_46 rfl ?_
    refine q_V1i (pc := 47) dX8_sizeOf_47 vX8_280 rfl rfl (Nat.le_of_ble_eq_true rfl) (Nat.le_of_ble_eq_true rfl) (t_X8_markOf hM3 hV3 hi) (fun r4 σ4 hc4 => ?_)
    obtain ⟨rfl, hF4, hM4⟩ := hc4
    refine q_iadd (pc := 50) dX8_sizeOf_50 ?_
    refine q_istore_n (pc := 51) dX8_sizeOf_51 (Nat.le_of_ble_eq_true rfl) ?_
    refine q_iload_n (pc := 52) dX8_sizeOf_52 rfl ?_
    refine q_iconst (pc := 53) dX8_sizeOf_53 ?_
    refine q_icmpne (pc := 54) (tgt := 62) dX8_sizeOf_54 (by decide) (by omega) (by omega) (fun h54 => ?_) (fun h => absurd h (by omega))
    refine q_iload_n (pc := 62) dX8_sizeOf_62 rfl ?_
    refine q_ri (pc := 63) dX8_sizeOf_63 rfl ?_
    exact ⟨rfl, (hF2.tt hF3).tt hF4, hM4⟩
theorem m_ask {i w : Int} (hM : MR σ A) (hV : AV A) (hi : -2147483648 ≤ i ∧ i ≤ 2147483647) (hw : -2147483648 ≤ w ∧ w ≤ 2147483647) : qE G mX8_ask (d + 5) 0 [(0, vr 82), (1, vi i), (2, vi w)] [] σ (ri (pM σ (s_ask A i w))) := by
  have h5 := hV.1.de
  refine q_aload_n (pc := 0) dX8_ask_0 rfl ?_
  refine q_iconst (pc := 1) dX8_ask_1 ?_
  refine q_pI (pc := 2) 0 dX8_ask_2 wX8_50 rfl rfl rfl ?_
  have hM := hM.fld (i := 0) (v := 0) (by decide)
  have hF0 : ∀ j, j < 82 → up σ 82 0 0 j = σ j := fun j hj => up_ne (by omega)
  generalize up σ 82 0 0 = τ at hM hF0 ⊢
  refine q_aload_n (pc := 5) dX8_ask_5 rfl ?_
  refine q_iload_n (pc := 6) dX8_ask_6 rfl ?_
  refine q_V1i (pc := 7) dX8_ask_7 vX8_196 rfl rfl (Nat.le_of_ble_eq_true rfl) (Nat.le_of_ble_eq_true rfl) (t_X8_isDeed hM.1 h5 (by omega)) (fun r1 σ1 hc1 => ?_)
  obtain ⟨rfl, rfl⟩ := hc1
  refine q_ifeqb (pc := 10) (tgt := 23) dX8_ask_10 (by decide) (fun h10 => ?_) (fun h10 => ?_)
  · refine q_ldc (pc := 23) (n := -1000001) kX8_70 dX8_ask_23 ?_
    refine q_ri (pc := 25) dX8_ask_25 rfl ?_
    refine ⟨A, ?_, hF0, hM⟩
    unfold s_ask
    rw [if_neg (by omega)]
  · refine q_iload_n (pc := 13) dX8_ask_13 rfl ?_
    refine q_i2l (pc := 14) dX8_ask_14 (by omega) ?_
    refine q_lconst0 (pc := 15) dX8_ask_15 ?_
    refine q_lconst1 (pc := 16) dX8_ask_16 ?_
    refine q_S3i (pc := 17) dX8_ask_17 vX8_60 (Nat.le_of_ble_eq_true rfl) (Nat.le_of_ble_eq_true rfl) (t_X8_in (by omega) (by omega) (by omega)) (fun r2 σ2 hc2 => ?_)
    obtain ⟨rfl, rfl⟩ := hc2
    refine q_ifneb (pc := 20) (tgt := 26) dX8_ask_20 (by decide) (fun h20 => ?_) (fun h20 => ?_)
    · refine q_aload_n (pc := 26) dX8_ask_26 rfl ?_
      refine q_iconst (pc := 27) dX8_ask_27 ?_
      refine q_pI (pc := 28) 24 dX8_ask_28 wX8_268 rfl rfl rfl ?_
      have hF1 : Fr τ (up τ 82 24 0) [82, 95] := Fr.up (by simp)
      have hM0 : MR (up τ 82 24 0) (aTr A (A.2.2.2.2.2.2.2.1, 0)) := hM.tr hF1 (fun i hi => by rw [up_same, if_neg hi]) (by rw [up_same, if_pos rfl]) (fun j h0 h1 => by have h1 : j < 0 := h1; omega)
      have hV0 : AV (aTr A (A.2.2.2.2.2.2.2.1, 0)) := hV.tr ⟨by show (0 : Int) ≤ 0 ∧ (0 : Int) ≤ 16; omega, fun j h0 h1 => by have h1 : j < 0 := h1; omega⟩
      refine q_iload_n (pc := 31) dX8_ask_31 rfl ?_
      refine q_ifne (pc := 32) (tgt := 43) dX8_ask_32 (by decide) (by omega) (fun h32 => ?_) (fun h32 => ?_)
      · refine q_aload_n (pc := 43) dX8_ask_43 rfl ?_
        refine q_iload_n (pc := 44) dX8_ask_44 rfl ?_
        refine q_V1i (pc := 45) dX8_ask_45 vX8_280 rfl rfl (Nat.le_of_ble_eq_true rfl) (Nat.le_of_ble_eq_true rfl) (t_X8_markOf hM0 hV0 (by show 0 ≤ i ∧ i < A.1 5; omega)) (fun r3 σ3 hc3 => ?_)
        obtain ⟨rfl, hF3, hM3⟩ := hc3
        refine q_ri (pc := 48) dX8_ask_48 rfl ?_
        refine ⟨_, ?_, fun j hj => by rw [hF3.m (by decide) j hj, hF1.m (by decide) j hj, hF0 j hj], hM3⟩
        unfold s_ask
        rw [if_pos (by omega)]
        first
        | rw [if_pos (by omega), if_pos (by omega)]; rfl
        | rw [if_neg (by omega), if_neg (by omega)]; rfl
      · refine q_aload_n (pc := 35) dX8_ask_35 rfl ?_
        refine q_iload_n (pc := 36) dX8_ask_36 rfl ?_
        refine q_V1i (pc := 37) dX8_ask_37 vX8_283 rfl rfl (Nat.le_of_ble_eq_true rfl) (Nat.le_of_ble_eq_true rfl) (t_X8_sizeOf hM0 hV0 (by show 0 ≤ i ∧ i < A.1 5; omega)) (fun r4 σ4 hc4 => ?_)
        obtain ⟨rfl, hF4, hM4⟩ := hc4
        refine q_goto (pc := 40) (tgt := 48) dX8_ask_40 (by decide) ?_
        refine q_ri (pc := 48) dX8_ask_48 rfl ?_
        refine ⟨_, ?_, fun j hj => by rw [hF4.m (by decide) j hj, hF1.m (by decide) j hj, hF0 j hj], hM4⟩
        unfold s_ask
        rw [if_pos (by omega)]
        first
        | rw [if_pos (by omega), if_pos (by omega)]; rfl
        | rw [if_neg (by omega), if_neg (by omega)]; rfl
    · refine q_ldc (pc := 23) (n := -1000001) kX8_70 dX8_ask_23 ?_
      refine q_ri (pc := 25) dX8_ask_25 rfl ?_
      refine ⟨A, ?_, hF0, hM⟩
      unfold s_ask
      rw [if_neg (by omega)]
end T8
