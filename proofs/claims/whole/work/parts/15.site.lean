/-! ===== NightLevel$Site ===== -/
theorem q32_in (x : Int32) : -2147483648 ≤ x.toInt ∧ x.toInt ≤ 2147483647 := by
  have h1 := Int32.le_toInt x
  have h2 := Int32.toInt_lt x
  omega
theorem qand_in (a b : Int) : -2147483648 ≤ qand a b ∧ qand a b ≤ 2147483647 := q32_in _
theorem qor_in (a b : Int) : -2147483648 ≤ qor a b ∧ qor a b ≤ 2147483647 := q32_in _
theorem qshl_in (a b : Int) : -2147483648 ≤ qshl a b ∧ qshl a b ≤ 2147483647 := q32_in _
theorem qshr_in (a b : Int) : -2147483648 ≤ qshr a b ∧ qshr a b ≤ 2147483647 := q32_in _
abbrev mDone (f : Int → Int) (i : Int) : Prop := qand (qshr (f 6) i) 1 = 1
def mRains (f : Int → Int) (n : Int) : Int := (f 4 + n + f 3 - 1) / f 3 - (f 4 + f 3 - 1) / f 3
def qSi (b : Nat) : Prop := b ∈ [15, 22, 30, 37]
theorem qSi_sh : ∀ b ∈ [15, 22, 30, 37], qSh b = (0, 4, [none, none, none, none, none, none, none, some (b + 1), some (b + 2), some (b + 3), some (b + 4)]) ∧ qSh (b + 1) = (1, 7, []) ∧ qSh (b + 2) = (1, 7, []) ∧ qSh (b + 3) = (1, 7, []) ∧ b + 4 ∈ [19, 26, 34, 41, 47, 52, 56, 59, 62, 65, 68, 71, 74, 77] := by decide +kernel
/-- the deeds' kinds, feet, amounts -/
def DeR (σ : qM) (b : Nat) (f : Int → Int) : Prop := ∀ i, 0 ≤ i → i < f 5 → σ (b + 1) i = f (13 + 3 * i) ∧ σ (b + 2) i = f (14 + 3 * i) ∧ σ (b + 3) i = f (15 + 3 * i)
/-- a site object holds a row -/
def SiR (σ : qM) (b : Nat) (f : Int → Int) : Prop :=
  (σ b 0 = f 0 ∧ σ b 4 = f 4 ∧ σ b 5 = f 5 ∧ σ b 6 = f 6) ∧ (f 0 = 1 → σ b 1 = f 1 ∧ σ b 2 = f 2 ∧ σ b 3 = f 3) ∧ StR σ (b + 4) f ∧ DeR σ b f
/-- what every row keeps -/
def Row (f : Int → Int) : Prop := mOk f ∧ (0 ≤ f 4 ∧ f 4 ≤ 999) ∧ (0 ≤ f 5 ∧ f 5 ≤ 7) ∧ (0 ≤ f 6 ∧ f 6 < 2 ^ (f 5).toNat) ∧ (f 0 = 0 ∨ f 0 = 1) ∧ (f 0 = 0 → f 5 = 0) ∧ (f 0 = 1 → (0 ≤ f 1 ∧ f 1 ≤ 9) ∧ (0 ≤ f 2 ∧ f 2 ≤ 9) ∧ (1 ≤ f 3 ∧ f 3 ≤ 9) ∧ 1 ≤ f 5) ∧
  ∀ i, 0 ≤ i → i < f 5 → (1 ≤ f (13 + 3 * i) ∧ f (13 + 3 * i) ≤ 5) ∧ (0 ≤ f (14 + 3 * i) ∧ f (14 + 3 * i) ≤ 2) ∧ (1 ≤ f (15 + 3 * i) ∧ f (15 + 3 * i) ≤ 20)
theorem SiR.fr {σ σ' : qM} {b : Nat} {f : Int → Int} {S : List Nat} (h : SiR σ b f) (hF : Fr σ σ' S) (hn : ∀ j, b ≤ j → j ≤ b + 6 → j ∉ S) : SiR σ' b f := by
  obtain ⟨h1, h2, h3, h4⟩ := h
  refine ⟨?_, ?_, h3.fr hF (hn _ (by omega) (by omega)) (hn _ (by omega) (by omega)), ?_⟩
  · rw [hF b (hn _ (by omega) (by omega))]; exact h1
  · rw [hF b (hn _ (by omega) (by omega))]; exact h2
  · unfold DeR
    rw [hF (b + 1) (hn _ (by omega) (by omega)), hF (b + 2) (hn _ (by omega) (by omega)), hF (b + 3) (hn _ (by omega) (by omega))]
    exact h4
theorem mRains_in {f : Int → Int} {n : Int} (h3 : 1 ≤ f 3) (h4 : 0 ≤ f 4) (hn : 0 ≤ n) : 0 ≤ mRains f n ∧ mRains f n ≤ n := by
  unfold mRains
  have e : f 4 + n + f 3 - 1 = (f 4 + f 3 - 1) + n := by omega
  rw [e]
  generalize f 4 + f 3 - 1 = x
  have h0 : 0 < f 3 := by omega
  have a1 : x / f 3 ≤ (x + n) / f 3 := Int.ediv_le_ediv h0 (by omega)
  have a2 : (x + n) / f 3 ≤ (x + n * f 3) / f 3 := Int.ediv_le_ediv h0 (by
    have : n * 1 ≤ n * f 3 := Int.mul_le_mul_of_nonneg_left h3 hn
    omega)
  rw [Int.add_mul_ediv_right x n (by omega)] at a2
  omega
section T4
variable {G : qGl} {d : Nat} {σ : qM} {b k : Nat} {f g : Int → Int}
theorem t_X4_hasDeed {i : Int} (hb : qSi b) (hf : SiR σ b f) (hR : Row f) (hi : -2147483648 ≤ i ∧ i ≤ 2147483647) : qE G mX4_hasDeed d 0 [(0, vr b), (1, vi i)] [] σ (ri fun r σ1 => bi (0 ≤ i ∧ i < f 5) = r ∧ σ = σ1) := by
  obtain ⟨b0, b1, b2, b3, b4⟩ := qSi_sh b hb
  obtain ⟨⟨e0, e4, e5, e6⟩, -⟩ := id hf
  obtain ⟨-, -, r5, -⟩ := id hR
  refine q_iload_n (pc := 0) dX4_hasDeed_0 rfl ?_
  refine q_iflt (pc := 1) (tgt := 16) dX4_hasDeed_1 (by decide) (by omega) (fun h1 => ?_) (fun h1 => ?_)
  · refine q_iconst (pc := 16) dX4_hasDeed_16 ?_
    refine q_rz (pc := 17) dX4_hasDeed_17 rfl (by first | exact bi_01 _ | omega) ?_
    refine ⟨?_, rfl⟩
    unfold bi
    split <;> omega
  · refine q_iload_n (pc := 4) dX4_hasDeed_4 rfl ?_
    refine q_aload_n (pc := 5) dX4_hasDeed_5 rfl ?_
    refine q_gI (pc := 6) 5 dX4_hasDeed_6 fX4_39 (by first | assumption | rfl) (by rfl) (by rfl) ?_
    refine q_icmpge (pc := 9) (tgt := 16) dX4_hasDeed_9 (by decide) (by omega) (by omega) (fun h9 => ?_) (fun h9 => ?_)
    · refine q_iconst (pc := 16) dX4_hasDeed_16 ?_
      refine q_rz (pc := 17) dX4_hasDeed_17 rfl (by first | exact bi_01 _ | omega) ?_
      refine ⟨?_, rfl⟩
      unfold bi
      split <;> omega
    · refine q_iconst (pc := 12) dX4_hasDeed_12 ?_
      refine q_goto (pc := 13) (tgt := 17) dX4_hasDeed_13 (by decide) ?_
      refine q_rz (pc := 17) dX4_hasDeed_17 rfl (by first | exact bi_01 _ | omega) ?_
      refine ⟨?_, rfl⟩
      unfold bi
      split <;> omega
theorem t_X4_isDone {i : Int} (hb : qSi b) (hf : SiR σ b f) : qE G mX4_isDone d 0 [(0, vr b), (1, vi i)] [] σ (ri fun r σ1 => bi (mDone f i) = r ∧ σ = σ1) := by
  obtain ⟨b0, b1, b2, b3, b4⟩ := qSi_sh b hb
  obtain ⟨⟨e0, e4, e5, e6⟩, -⟩ := id hf
  have hq := qand_in (qshr (σ b 6) i) 1
  refine q_aload_n (pc := 0) dX4_isDone_0 rfl ?_
  refine q_gI (pc := 1) 6 dX4_isDone_1 fX4_42 (by first | assumption | rfl) (by rfl) (by rfl) ?_
  refine q_iload_n (pc := 4) dX4_isDone_4 rfl ?_
  refine q_ishr (pc := 5) dX4_isDone_5 ?_
  refine q_iconst (pc := 6) dX4_isDone_6 ?_
  refine q_iand (pc := 7) dX4_isDone_7 ?_
  refine q_iconst (pc := 8) dX4_isDone_8 ?_
  refine q_icmpne (pc := 9) (tgt := 16) dX4_isDone_9 (by decide) (by omega) (by omega) (fun h9 => ?_) (fun h9 => ?_)
  · refine q_iconst (pc := 16) dX4_isDone_16 ?_
    refine q_rz (pc := 17) dX4_isDone_17 rfl (by first | exact bi_01 _ | omega) ?_
    refine ⟨?_, rfl⟩
    unfold bi mDone
    rw [e6] at h9
    simp [h9]
  · refine q_iconst (pc := 12) dX4_isDone_12 ?_
    refine q_goto (pc := 13) (tgt := 17) dX4_isDone_13 (by decide) ?_
    refine q_rz (pc := 17) dX4_isDone_17 rfl (by first | exact bi_01 _ | omega) ?_
    refine ⟨?_, rfl⟩
    unfold bi mDone
    rw [e6] at h9
    simp [h9]
theorem t_X4_isLevel (hb : qSi b) (hk : qSt k) (hf : SiR σ b f) (hR : Row f) (h1 : f 0 = 1) (hS : StR σ k g) (hO : mOk g) (hg : g 1 = f 1 ∧ g 2 = f 2) : qE G mX4_isLevel (d + 2) 0 [(0, vr b), (1, vr k)] [] σ (ri fun r σ1 => bi (mLevel g) = r ∧ σ = σ1) := by
  obtain ⟨b0, b1, b2, b3, b4⟩ := qSi_sh b hb
  obtain ⟨k0, k1, k2⟩ := qSt_sh k hk
  obtain ⟨-, e1, -⟩ := id hf
  obtain ⟨e1, e2, e3⟩ := e1 h1
  obtain ⟨-, -, -, -, -, -, r1, -⟩ := id hR
  obtain ⟨r1, r2, r3, r5⟩ := r1 h1
  have i1 := mSide_in hO
  have i2 := mAlong_in hO
  refine q_aload_n (pc := 0) dX4_isLevel_0 rfl ?_
  refine q_V0i (pc := 1) dX4_isLevel_1 vX4_67 (by first | assumption | rfl) (by rfl) (Nat.le_of_ble_eq_true rfl) (Nat.le_of_ble_eq_true rfl) (t_X5_side hk hS) (fun r1 σ1 hc1 => ?_)
  obtain ⟨rfl, rfl⟩ := hc1
  refine q_abs (pc := 4) dX4_isLevel_4 vX4_71 v_abs1 v_im v_abs2 (by omega) (Nat.le_of_ble_eq_true rfl) (by omega) ?_
  refine q_aload_n (pc := 7) dX4_isLevel_7 rfl ?_
  refine q_gI (pc := 8) 1 dX4_isLevel_8 fX4_45 (by first | assumption | rfl) (by rfl) (by rfl) ?_
  refine q_icmpgt (pc := 11) (tgt := 32) dX4_isLevel_11 (by decide) (by omega) (by omega) (fun h11 => ?_) (fun h11 => ?_)
  · refine q_iconst (pc := 32) dX4_isLevel_32 ?_
    refine q_rz (pc := 33) dX4_isLevel_33 rfl (by first | exact bi_01 _ | omega) ?_
    refine ⟨?_, rfl⟩
    simp only [mOff_abs] at *
    unfold bi mLevel
    split <;> omega
  · refine q_aload_n (pc := 14) dX4_isLevel_14 rfl ?_
    refine q_V0i (pc := 15) dX4_isLevel_15 vX4_76 (by first | assumption | rfl) (by rfl) (Nat.le_of_ble_eq_true rfl) (Nat.le_of_ble_eq_true rfl) (t_X5_along hk hS hO) (fun r2 σ2 hc2 => ?_)
    obtain ⟨rfl, rfl⟩ := hc2
    refine q_abs (pc := 18) dX4_isLevel_18 vX4_71 v_abs1 v_im v_abs2 (by omega) (Nat.le_of_ble_eq_true rfl) (by omega) ?_
    refine q_aload_n (pc := 21) dX4_isLevel_21 rfl ?_
    refine q_gI (pc := 22) 2 dX4_isLevel_22 fX4_48 (by first | assumption | rfl) (by rfl) (by rfl) ?_
    refine q_icmpgt (pc := 25) (tgt := 32) dX4_isLevel_25 (by decide) (by omega) (by omega) (fun h25 => ?_) (fun h25 => ?_)
    · refine q_iconst (pc := 32) dX4_isLevel_32 ?_
      refine q_rz (pc := 33) dX4_isLevel_33 rfl (by first | exact bi_01 _ | omega) ?_
      refine ⟨?_, rfl⟩
      simp only [mOff_abs] at *
      unfold bi mLevel
      split <;> omega
    · refine q_iconst (pc := 28) dX4_isLevel_28 ?_
      refine q_goto (pc := 29) (tgt := 33) dX4_isLevel_29 (by decide) ?_
      refine q_rz (pc := 33) dX4_isLevel_33 rfl (by first | exact bi_01 _ | omega) ?_
      refine ⟨?_, rfl⟩
      simp only [mOff_abs] at *
      unfold bi mLevel
      split <;> omega
theorem t_X4_enact {i : Int} (hb : qSi b) (hk : qSt k) (hf : SiR σ b f) (hR : Row f) (hi : 0 ≤ i ∧ i < f 5) (hS : StR σ k g) (hO : mOk g) : qE G mX4_enact (d + 4) 0 [(0, vr b), (1, vi i), (2, vr k)] [] σ (rv fun σ1 => Fr σ σ1 [k + 1, k + 2] ∧ StR σ1 k (mAct g (f (13 + 3 * i)) (f (14 + 3 * i)) (f (15 + 3 * i))) ∧ mOk (mAct g (f (13 + 3 * i)) (f (14 + 3 * i)) (f (15 + 3 * i)))) := by
  obtain ⟨b0, b1, b2, b3, b4⟩ := qSi_sh b hb
  obtain ⟨k0, k1, k2⟩ := qSt_sh k hk
  obtain ⟨-, -, -, hde⟩ := id hf
  obtain ⟨d1, d2, d3⟩ := hde i hi.1 hi.2
  obtain ⟨-, -, r5, -, -, -, -, r8⟩ := id hR
  have r8 := r8 i hi.1 hi.2
  refine q_aload_n (pc := 0) dX4_enact_0 rfl ?_
  refine q_aload_n (pc := 1) dX4_enact_1 rfl ?_
  refine q_getR (pc := 2) dX4_enact_2 fX4_15 (by first | assumption | rfl) (by rfl) ?_
  refine q_iload_n (pc := 5) dX4_enact_5 rfl ?_
  refine q_iald (pc := 6) dX4_enact_6 (by first | assumption | rfl) (by omega) ?_
  refine q_aload_n (pc := 7) dX4_enact_7 rfl ?_
  refine q_getR (pc := 8) dX4_enact_8 fX4_19 (by first | assumption | rfl) (by rfl) ?_
  refine q_iload_n (pc := 11) dX4_enact_11 rfl ?_
  refine q_iald (pc := 12) dX4_enact_12 (by first | assumption | rfl) (by omega) ?_
  refine q_aload_n (pc := 13) dX4_enact_13 rfl ?_
  refine q_getR (pc := 14) dX4_enact_14 fX4_22 (by first | assumption | rfl) (by rfl) ?_
  refine q_iload_n (pc := 17) dX4_enact_17 rfl ?_
  refine q_iald (pc := 18) dX4_enact_18 (by first | assumption | rfl) (by omega) ?_
  refine q_V3v (pc := 19) dX4_enact_19 vX4_79 (by first | assumption | rfl) (by rfl) (Nat.le_of_ble_eq_true rfl) (Nat.le_of_ble_eq_true rfl) (t_X5_enact hk hS hO (by omega) (by omega) (by omega) (by omega)) (fun σ1 hc1 => ?_)
  obtain ⟨hF1, hS, hO⟩ := hc1
  refine q_rv (pc := 22) dX4_enact_22 rfl ?_
  rw [d1, d2, d3] at hS hO
  exact ⟨hF1, hS, hO⟩
theorem t_X4_rainsWithin {n : Int} (hb : qSi b) (hf : SiR σ b f) (hR : Row f) (h1 : f 0 = 1) (hn : 0 ≤ n ∧ n ≤ 1000) : qE G mX4_rainsWithin d 0 [(0, vr b), (1, vi n)] [] σ (ri fun r σ1 => mRains f n = r ∧ σ = σ1) := by
  obtain ⟨b0, b1, b2, b3, b4⟩ := qSi_sh b hb
  obtain ⟨⟨e0, e4, e5, e6⟩, e1, -⟩ := id hf
  obtain ⟨e1, e2, e3⟩ := e1 h1
  obtain ⟨-, r4, -, -, -, -, r1, -⟩ := id hR
  obtain ⟨r1, r2, r3, r5⟩ := r1 h1
  refine q_aload_n (pc := 0) dX4_rainsWithin_0 rfl ?_
  refine q_gI (pc := 1) 3 dX4_rainsWithin_1 fX4_9 (by first | assumption | rfl) (by rfl) (by rfl) ?_
  refine q_iconst (pc := 4) dX4_rainsWithin_4 ?_
  refine q_icmpge (pc := 5) (tgt := 10) dX4_rainsWithin_5 (by decide) (by omega) (by omega) (fun h5 => ?_) (fun h => absurd h (by omega))
  refine q_aload_n (pc := 10) dX4_rainsWithin_10 rfl ?_
  refine q_gI (pc := 11) 4 dX4_rainsWithin_11 fX4_36 (by first | assumption | rfl) (by rfl) (by rfl) ?_
  refine q_iload_n (pc := 14) dX4_rainsWithin_14 rfl ?_
  refine q_iadd (pc := 15) dX4_rainsWithin_15 ?_
  refine q_aload_n (pc := 16) dX4_rainsWithin_16 rfl ?_
  refine q_gI (pc := 17) 3 dX4_rainsWithin_17 fX4_9 (by first | assumption | rfl) (by rfl) (by rfl) ?_
  refine q_iadd (pc := 20) dX4_rainsWithin_20 ?_
  refine q_iconst (pc := 21) dX4_rainsWithin_21 ?_
  refine q_isub (pc := 22) dX4_rainsWithin_22 ?_
  refine q_aload_n (pc := 23) dX4_rainsWithin_23 rfl ?_
  refine q_gI (pc := 24) 3 dX4_rainsWithin_24 fX4_9 (by first | assumption | rfl) (by rfl) (by rfl) ?_
  refine q_idiv (pc := 27) dX4_rainsWithin_27 (by omega) ?_
  refine q_aload_n (pc := 28) dX4_rainsWithin_28 rfl ?_
  refine q_gI (pc := 29) 4 dX4_rainsWithin_29 fX4_36 (by first | assumption | rfl) (by rfl) (by rfl) ?_
  refine q_aload_n (pc := 32) dX4_rainsWithin_32 rfl ?_
  refine q_gI (pc := 33) 3 dX4_rainsWithin_33 fX4_9 (by first | assumption | rfl) (by rfl) (by rfl) ?_
  refine q_iadd (pc := 36) dX4_rainsWithin_36 ?_
  refine q_iconst (pc := 37) dX4_rainsWithin_37 ?_
  refine q_isub (pc := 38) dX4_rainsWithin_38 ?_
  refine q_aload_n (pc := 39) dX4_rainsWithin_39 rfl ?_
  refine q_gI (pc := 40) 3 dX4_rainsWithin_40 fX4_9 (by first | assumption | rfl) (by rfl) (by rfl) ?_
  refine q_idiv (pc := 43) dX4_rainsWithin_43 (by omega) ?_
  refine q_isub (pc := 44) dX4_rainsWithin_44 ?_
  refine q_ri (pc := 45) dX4_rainsWithin_45 rfl ?_
  refine ⟨?_, rfl⟩
  unfold mRains
  rw [e3, e4]
theorem t_X4_passHour (hb : qSi b) (hf : SiR σ b f) (hR : Row f) (h1 : f 0 = 1) : qE G mX4_passHour (d + 3) 0 [(0, vr b)] [] σ (rv fun σ1 => Fr σ σ1 [b, b + 5] ∧ SiR σ1 b (u1 (mSink f (mRains f 1)) 4 (f 4 + 1))) := by
  obtain ⟨b0, b1, b2, b3, hk⟩ := qSi_sh b hb
  obtain ⟨k0, k1, k2⟩ := qSt_sh (b + 4) hk
  obtain ⟨⟨e0, e4, e5, e6⟩, e1, hS, hde⟩ := id hf
  have hO := hR.1
  obtain ⟨-, r4, -, -, -, -, r1, -⟩ := id hR
  obtain ⟨r1, r2, r3, r5⟩ := r1 h1
  have hm := mRains_in (n := 1) r3.1 r4.1 (by omega)
  refine q_aload_n (pc := 0) dX4_passHour_0 rfl ?_
  refine q_getR (pc := 1) dX4_passHour_1 fX4_28 (by first | assumption | rfl) (by rfl) ?_
  refine q_aload_n (pc := 4) dX4_passHour_4 rfl ?_
  refine q_iconst (pc := 5) dX4_passHour_5 ?_
  refine q_V1i (pc := 6) dX4_passHour_6 vX4_83 (by first | assumption | rfl) (by rfl) (Nat.le_of_ble_eq_true rfl) (Nat.le_of_ble_eq_true rfl) (t_X4_rainsWithin hb hf hR h1 (by omega)) (fun r1 σ1 hc1 => ?_)
  obtain ⟨rfl, rfl⟩ := hc1
  refine q_V1v (pc := 9) dX4_passHour_9 vX4_86 (by first | assumption | rfl) (by rfl) (Nat.le_of_ble_eq_true rfl) (Nat.le_of_ble_eq_true rfl) (t_X5_sink hk hS hO (by omega)) (fun σ2 hc2 => ?_)
  obtain ⟨hF2, hS, hO⟩ := hc2
  refine q_aload_n (pc := 12) dX4_passHour_12 rfl ?_
  refine q_dup (pc := 13) dX4_passHour_13 rfl ?_
  refine q_gI (pc := 14) 4 dX4_passHour_14 fX4_36 (by first | assumption | rfl) (by rfl) (by rfl) ?_
  refine q_iconst (pc := 17) dX4_passHour_17 ?_
  refine q_iadd (pc := 18) dX4_passHour_18 ?_
  refine q_pI (pc := 19) 4 dX4_passHour_19 wX4_36 (by first | assumption | rfl) (by rfl) (by rfl) ?_
  refine q_rv (pc := 22) dX4_passHour_22 rfl ?_
  have fb := hF2 b (by simp; omega)
  refine ⟨Fr.tt (hF2.wk (by simp)) (Fr.up (by simp)), ?_⟩
  have q : ∀ j, j < 7 → u1 (mSink f (mRains f 1)) 4 (f 4 + 1) j = u1 f 4 (f 4 + 1) j := by
    intro j hj
    simp [u1, mSink, mLift, show j ≠ 7 by omega, show j ≠ 8 by omega, show j ≠ 9 by omega]
  have q2 : ∀ j, 10 ≤ j → u1 (mSink f (mRains f 1)) 4 (f 4 + 1) j = f j := by
    intro j hj
    simp [u1, mSink, mLift, show j ≠ 7 by omega, show j ≠ 8 by omega, show j ≠ 9 by omega, show j ≠ 4 by omega]
  have n5 : ∀ j : Nat, j ≠ b → up σ2 b 4 (σ2 b 4 + 1) j = σ2 j := fun j h => up_ne h
  refine ⟨⟨?_, ?_, ?_, ?_⟩, ?_, ?_, ?_⟩
  · rw [up_same, fb, q 0 (by omega)]; simp [u1, e0]
  · rw [up_same, fb, q 4 (by omega)]; simp [u1, e4]
  · rw [up_same, fb, q 5 (by omega)]; simp [u1, e5]
  · rw [up_same, fb, q 6 (by omega)]; simp [u1, e6]
  · intro h0
    rw [up_same, up_same, up_same, fb, q 1 (by omega), q 2 (by omega), q 3 (by omega)]
    rw [q 0 (by omega)] at h0
    have h0' : f 0 = 1 := by simpa [u1] using h0
    obtain ⟨x1, x2, x3⟩ := e1 h1
    simp [u1, x1, x2, x3]
  · exact StR.congr (hS.fr (S := [b]) (Fr.up (by simp)) (by simp; omega) (by simp; omega)) (fun j h7 h12 => by unfold u1; rw [if_neg (by omega)])
  · intro i hi0 hi1
    have e5' : u1 (mSink f (mRains f 1)) 4 (f 4 + 1) 5 = f 5 := by rw [q 5 (by omega)]; simp [u1]
    rw [e5'] at hi1
    rw [n5 _ (by omega), n5 _ (by omega), n5 _ (by omega), hF2 (b + 1) (by simp), hF2 (b + 2) (by simp), hF2 (b + 3) (by simp), q2 _ (by omega), q2 _ (by omega), q2 _ (by omega)]
    exact hde i hi0 hi1
end T4
