/-! ===== the reference: rows of 34 ===== -/
def RwR (σ : qM) (k : Nat) (f : Int → Int) : Prop := ∀ j, 0 ≤ j → j < 34 → σ k j = f j
def mDo (f : Int → Int) (i : Int) : Int → Int := u1 (mAct f (f (13 + 3 * i)) (f (14 + 3 * i)) (f (15 + 3 * i))) 6 (qor (f 6) (qshl 1 i))
theorem RwR.fr {σ σ' : qM} {k : Nat} {f : Int → Int} {S : List Nat} (h : RwR σ k f) (hF : Fr σ σ' S) (hk : k ∉ S) : RwR σ' k f := by
  intro j h0 h1
  rw [hF k hk]
  exact h j h0 h1
theorem RwR.up {σ : qM} {k : Nat} {f : Int → Int} {i v : Int} (h : RwR σ k f) : RwR (up σ k i v) k (u1 f i v) := by
  intro j h0 h1
  rw [up_same, h j h0 h1]
  rfl
theorem mAct_o (f : Int → Int) (kd i a : Int) (h0 : 0 ≤ i) (h2 : i ≤ 2) {j : Int} (h : j < 7 ∨ 12 < j) : mAct f kd i a j = f j := by
  have hl : ∀ g : Int → Int, ∀ i' b : Int, 0 ≤ i' → i' ≤ 2 → mLift g i' b j = g j := by
    intro g i' b h1 h3
    unfold mLift u1
    rw [if_neg (by omega)]
  have hs : ∀ g : Int → Int, mSwap g j = g j := by
    intro g
    unfold mSwap
    rw [if_neg (by omega), if_neg (by omega), if_neg (by omega), if_neg (by omega)]
  unfold mAct
  split
  · exact hl _ _ _ h0 h2
  · split
    · exact hl _ _ _ h0 h2
    · split
      · unfold mSoft u1
        rw [if_neg (by omega)]
        exact hl _ _ _ h0 h2
      · split
        · exact hl _ _ _ (by omega) (by omega)
        · unfold mWind
          rw [hl _ _ _ (by omega) (by omega)]
          exact hs _
section T8
variable {G : qGl} {d : Nat} {σ : qM} {k : Nat} {f g : Int → Int}
theorem qcmp_in (a b : Int) : -1 ≤ qcmp a b ∧ qcmp a b ≤ 1 := by
  unfold qcmp
  split
  · omega
  · split <;> omega
theorem qcmp_lt {a b : Int} : qcmp a b < 0 ↔ a < b := by
  unfold qcmp
  split
  · omega
  · split <;> omega
theorem qcmp_gt {a b : Int} : 0 < qcmp a b ↔ b < a := by
  unfold qcmp
  split
  · omega
  · split <;> omega
theorem t_X8_in {a b c : Int} (ha : -9223372036854775808 ≤ a ∧ a ≤ 9223372036854775807) (hb : -9223372036854775808 ≤ b ∧ b ≤ 9223372036854775807) (hc : -9223372036854775808 ≤ c ∧ c ≤ 9223372036854775807) : qE G mX8_in d 0 [(0, vl a), (2, vl b), (4, vl c)] [] σ (ri fun r σ1 => bi (b ≤ a ∧ a ≤ c) = r ∧ σ = σ1) := by
  have i1 := qcmp_in a b
  have i2 := qcmp_in a c
  have j1 := @qcmp_lt a b
  have j2 := @qcmp_gt a c
  refine q_lload_n (pc := 0) dX8_in_0 rfl ?_
  refine q_lload_n (pc := 1) dX8_in_1 rfl ?_
  refine q_lcmp (pc := 2) dX8_in_2 (by omega) (by omega) ?_
  refine q_iflt (pc := 3) (tgt := 17) dX8_in_3 (by decide) (by omega) (fun h3 => ?_) (fun h3 => ?_)
  · refine q_iconst (pc := 17) dX8_in_17 ?_
    refine q_rz (pc := 18) dX8_in_18 rfl (by first | exact bi_01 _ | omega) ?_
    refine ⟨?_, rfl⟩
    unfold bi
    split <;> omega
  · refine q_lload_n (pc := 6) dX8_in_6 rfl ?_
    refine q_lload (pc := 7) dX8_in_7 rfl ?_
    refine q_lcmp (pc := 9) dX8_in_9 (by omega) (by omega) ?_
    refine q_ifgt (pc := 10) (tgt := 17) dX8_in_10 (by decide) (by omega) (fun h10 => ?_) (fun h10 => ?_)
    · refine q_iconst (pc := 17) dX8_in_17 ?_
      refine q_rz (pc := 18) dX8_in_18 rfl (by first | exact bi_01 _ | omega) ?_
      refine ⟨?_, rfl⟩
      unfold bi
      split <;> omega
    · refine q_iconst (pc := 13) dX8_in_13 ?_
      refine q_goto (pc := 14) (tgt := 18) dX8_in_14 (by decide) ?_
      refine q_rz (pc := 18) dX8_in_18 rfl (by first | exact bi_01 _ | omega) ?_
      refine ⟨?_, rfl⟩
      unfold bi
      split <;> omega
theorem t_X8_isRow {r : Int} (hr : -2147483648 ≤ r ∧ r ≤ 2147483647) : qE G mX8_isRow (d + 1) 0 [(0, vi r)] [] σ (ri fun x σ1 => bi (0 ≤ r ∧ r ≤ 7) = x ∧ σ = σ1) := by
  refine q_iload_n (pc := 0) dX8_isRow_0 rfl ?_
  refine q_i2l (pc := 1) dX8_isRow_1 (by omega) ?_
  refine q_lconst0 (pc := 2) dX8_isRow_2 ?_
  refine q_ldc2 (pc := 3) (n := 7) kX8_58 dX8_isRow_3 ?_
  refine q_S3i (pc := 6) dX8_isRow_6 vX8_60 (Nat.le_of_ble_eq_true rfl) (Nat.le_of_ble_eq_true rfl) (t_X8_in (by omega) (by omega) (by omega)) (fun r1 σ1 hc1 => ?_)
  obtain ⟨rfl, rfl⟩ := hc1
  refine q_rz (pc := 9) dX8_isRow_9 rfl (by first | exact bi_01 _ | omega) ?_
  exact ⟨rfl, rfl⟩
theorem t_X8_isFoot {r : Int} (hr : -2147483648 ≤ r ∧ r ≤ 2147483647) : qE G mX8_isFoot (d + 1) 0 [(0, vi r)] [] σ (ri fun x σ1 => bi (0 ≤ r ∧ r ≤ 2) = x ∧ σ = σ1) := by
  refine q_iload_n (pc := 0) dX8_isFoot_0 rfl ?_
  refine q_i2l (pc := 1) dX8_isFoot_1 (by omega) ?_
  refine q_lconst0 (pc := 2) dX8_isFoot_2 ?_
  refine q_ldc2 (pc := 3) (n := 2) kX8_68 dX8_isFoot_3 ?_
  refine q_S3i (pc := 6) dX8_isFoot_6 vX8_60 (Nat.le_of_ble_eq_true rfl) (Nat.le_of_ble_eq_true rfl) (t_X8_in (by omega) (by omega) (by omega)) (fun r1 σ1 hc1 => ?_)
  obtain ⟨rfl, rfl⟩ := hc1
  refine q_rz (pc := 9) dX8_isFoot_9 rfl (by first | exact bi_01 _ | omega) ?_
  exact ⟨rfl, rfl⟩
theorem t_X8_finding {n : Int} : qE G mX8_finding d 0 [(0, vr 82), (1, vi n)] [] σ (ri fun x σ1 => -1000010 - n = x ∧ up σ 82 1 n = σ1) := by
  refine q_aload_n (pc := 0) dX8_finding_0 rfl ?_
  refine q_iload_n (pc := 1) dX8_finding_1 rfl ?_
  refine q_pI (pc := 2) 1 dX8_finding_2 wX8_54 rfl rfl rfl ?_
  refine q_ldc (pc := 5) (n := -1000010) kX8_57 dX8_finding_5 ?_
  refine q_iload_n (pc := 7) dX8_finding_7 rfl ?_
  refine q_isub (pc := 8) dX8_finding_8 ?_
  refine q_ri (pc := 9) dX8_finding_9 rfl ?_
  exact ⟨rfl, rfl⟩
theorem t_X8_isThere (hf : RwR σ 86 f) (h0 : f 0 = 0 ∨ f 0 = 1) : qE G mX8_isThere d 0 [(0, vr 82)] [] σ (ri fun x σ1 => bi (f 0 = 1) = x ∧ σ = σ1) := by
  have e0 := hf 0 (by omega) (by omega)
  refine q_aload_n (pc := 0) dX8_isThere_0 rfl ?_
  refine q_getR (pc := 1) dX8_isThere_1 fX8_19 rfl rfl ?_
  refine q_iconst (pc := 4) dX8_isThere_4 ?_
  refine q_iald (pc := 5) dX8_isThere_5 rfl (by omega) ?_
  refine q_iconst (pc := 6) dX8_isThere_6 ?_
  refine q_icmpne (pc := 7) (tgt := 14) dX8_isThere_7 (by decide) (by omega) (by omega) (fun h7 => ?_) (fun h7 => ?_)
  · refine q_iconst (pc := 14) dX8_isThere_14 ?_
    refine q_rz (pc := 15) dX8_isThere_15 rfl (by first | exact bi_01 _ | omega) ?_
    refine ⟨?_, rfl⟩
    unfold bi
    split <;> omega
  · refine q_iconst (pc := 10) dX8_isThere_10 ?_
    refine q_goto (pc := 11) (tgt := 15) dX8_isThere_11 (by decide) ?_
    refine q_rz (pc := 15) dX8_isThere_15 rfl (by first | exact bi_01 _ | omega) ?_
    refine ⟨?_, rfl⟩
    unfold bi
    split <;> omega
theorem t_X8_isDeed {i : Int} (hf : RwR σ 86 f) (h5 : 0 ≤ f 5 ∧ f 5 ≤ 7) (hi : -2147483648 ≤ i ∧ i ≤ 2147483647) : qE G mX8_isDeed (d + 1) 0 [(0, vr 82), (1, vi i)] [] σ (ri fun x σ1 => bi (0 ≤ i ∧ i < f 5) = x ∧ σ = σ1) := by
  have e5 := hf 5 (by omega) (by omega)
  refine q_iload_n (pc := 0) dX8_isDeed_0 rfl ?_
  refine q_i2l (pc := 1) dX8_isDeed_1 (by omega) ?_
  refine q_lconst0 (pc := 2) dX8_isDeed_2 ?_
  refine q_aload_n (pc := 3) dX8_isDeed_3 rfl ?_
  refine q_getR (pc := 4) dX8_isDeed_4 fX8_19 rfl rfl ?_
  refine q_iconst (pc := 7) dX8_isDeed_7 ?_
  refine q_iald (pc := 8) dX8_isDeed_8 rfl (by omega) ?_
  refine q_iconst (pc := 9) dX8_isDeed_9 ?_
  refine q_isub (pc := 10) dX8_isDeed_10 ?_
  refine q_i2l (pc := 11) dX8_isDeed_11 (by omega) ?_
  refine q_S3i (pc := 12) dX8_isDeed_12 vX8_60 (Nat.le_of_ble_eq_true rfl) (Nat.le_of_ble_eq_true rfl) (t_X8_in (by omega) (by omega) (by omega)) (fun r1 σ1 hc1 => ?_)
  obtain ⟨rfl, rfl⟩ := hc1
  refine q_rz (pc := 15) dX8_isDeed_15 rfl (by first | exact bi_01 _ | omega) ?_
  refine ⟨?_, rfl⟩
  rw [e5]
  unfold bi
  split <;> split <;> omega
theorem t_X8_of {i w : Int} (hk : qSh k = (1, 34, [])) (hf : RwR σ k f) (hi : 0 ≤ i ∧ i < 7) (hw : 0 ≤ w ∧ w ≤ 2) : qE G mX8_of d 0 [(0, vr k), (1, vi i), (2, vi w)] [] σ (ri fun x σ1 => f (13 + 3 * i + w) = x ∧ σ = σ1) := by
  have e := hf (13 + 3 * i + w) (by omega) (by omega)
  refine q_aload_n (pc := 0) dX8_of_0 rfl ?_
  refine q_bipush (pc := 1) dX8_of_1 (by decide +kernel) ?_
  refine q_iconst (pc := 3) dX8_of_3 ?_
  refine q_iload_n (pc := 4) dX8_of_4 rfl ?_
  refine q_imul (pc := 5) dX8_of_5 ?_
  refine q_iadd (pc := 6) dX8_of_6 ?_
  refine q_iload_n (pc := 7) dX8_of_7 rfl ?_
  refine q_iadd (pc := 8) dX8_of_8 ?_
  refine q_iald (pc := 9) dX8_of_9 (by first | assumption | rfl) (by omega) ?_
  refine q_ri (pc := 10) dX8_of_10 rfl ?_
  exact ⟨e.symm, rfl⟩
theorem t_X8_sideOf (hk : qSh k = (1, 34, [])) (hf : RwR σ k f) : qE G mX8_sideOf d 0 [(0, vr k)] [] σ (ri fun x σ1 => mSide f = x ∧ σ = σ1) := by
  have e7 := hf 7 (by omega) (by omega)
  have e8 := hf 8 (by omega) (by omega)
  refine q_aload_n (pc := 0) dX8_sideOf_0 rfl ?_
  refine q_bipush (pc := 1) dX8_sideOf_1 (by decide +kernel) ?_
  refine q_iald (pc := 3) dX8_sideOf_3 (by first | assumption | rfl) (by omega) ?_
  refine q_aload_n (pc := 4) dX8_sideOf_4 rfl ?_
  refine q_bipush (pc := 5) dX8_sideOf_5 (by decide +kernel) ?_
  refine q_iald (pc := 7) dX8_sideOf_7 (by first | assumption | rfl) (by omega) ?_
  refine q_isub (pc := 8) dX8_sideOf_8 ?_
  refine q_ri (pc := 9) dX8_sideOf_9 rfl ?_
  exact ⟨by unfold mSide; omega, rfl⟩
theorem t_X8_middleOf (hk : qSh k = (1, 34, [])) (hf : RwR σ k f) (hO : mOk f) : qE G mX8_middleOf d 0 [(0, vr k)] [] σ (ri fun x σ1 => mMid f = x ∧ σ = σ1) := by
  have e7 := hf 7 (by omega) (by omega)
  have e8 := hf 8 (by omega) (by omega)
  obtain ⟨o1, o2, o3, o4, o5, o6⟩ := hO
  refine q_aload_n (pc := 0) dX8_middleOf_0 rfl ?_
  refine q_bipush (pc := 1) dX8_middleOf_1 (by decide +kernel) ?_
  refine q_iald (pc := 3) dX8_middleOf_3 (by first | assumption | rfl) (by omega) ?_
  refine q_aload_n (pc := 4) dX8_middleOf_4 rfl ?_
  refine q_bipush (pc := 5) dX8_middleOf_5 (by decide +kernel) ?_
  refine q_iald (pc := 7) dX8_middleOf_7 (by first | assumption | rfl) (by omega) ?_
  refine q_iadd (pc := 8) dX8_middleOf_8 ?_
  refine q_iconst (pc := 9) dX8_middleOf_9 ?_
  refine q_idiv (pc := 10) dX8_middleOf_10 (by omega) ?_
  refine q_ri (pc := 11) dX8_middleOf_11 rfl ?_
  exact ⟨by unfold mMid; omega, rfl⟩
theorem t_X8_alongOf (hk : qSh k = (1, 34, [])) (hf : RwR σ k f) (hO : mOk f) : qE G mX8_alongOf (d + 1) 0 [(0, vr k)] [] σ (ri fun x σ1 => mAlong f = x ∧ σ = σ1) := by
  have e9 := hf 9 (by omega) (by omega)
  refine q_aload_n (pc := 0) dX8_alongOf_0 rfl ?_
  refine q_bipush (pc := 1) dX8_alongOf_1 (by decide +kernel) ?_
  refine q_iald (pc := 3) dX8_alongOf_3 (by first | assumption | rfl) (by omega) ?_
  refine q_aload_n (pc := 4) dX8_alongOf_4 rfl ?_
  refine q_S1i (pc := 5) dX8_alongOf_5 vX8_155 (Nat.le_of_ble_eq_true rfl) (Nat.le_of_ble_eq_true rfl) (t_X8_middleOf hk hf hO) (fun r1 σ1 hc1 => ?_)
  obtain ⟨rfl, rfl⟩ := hc1
  refine q_isub (pc := 8) dX8_alongOf_8 ?_
  refine q_ri (pc := 9) dX8_alongOf_9 rfl ?_
  exact ⟨by unfold mAlong; omega, rfl⟩
theorem t_X8_off {a : Int} (ha : -1000000 ≤ a ∧ a ≤ 1000000) : qE G mX8_off d 0 [(0, vi a)] [] σ (ri fun x σ1 => mOff a = x ∧ σ = σ1) := by
  refine q_iload_n (pc := 0) dX8_off_0 rfl ?_
  refine q_ifge (pc := 1) (tgt := 9) dX8_off_1 (by decide) (by omega) (fun h1 => ?_) (fun h1 => ?_)
  · refine q_iload_n (pc := 9) dX8_off_9 rfl ?_
    refine q_ri (pc := 10) dX8_off_10 rfl ?_
    refine ⟨?_, rfl⟩
    unfold mOff
    split <;> omega
  · refine q_iload_n (pc := 4) dX8_off_4 rfl ?_
    refine q_ineg (pc := 5) dX8_off_5 ?_
    refine q_goto (pc := 6) (tgt := 10) dX8_off_6 (by decide) ?_
    refine q_ri (pc := 10) dX8_off_10 rfl ?_
    refine ⟨?_, rfl⟩
    unfold mOff
    split <;> omega
theorem t_X8_awryOf (hk : qSh k = (1, 34, [])) (hf : RwR σ k f) (hO : mOk f) : qE G mX8_awryOf (d + 2) 0 [(0, vr k)] [] σ (ri fun x σ1 => mAwry f = x ∧ σ = σ1) := by
  have i1 := mSide_in hO
  have i2 := mAlong_in hO
  refine q_aload_n (pc := 0) dX8_awryOf_0 rfl ?_
  refine q_S1i (pc := 1) dX8_awryOf_1 vX8_159 (Nat.le_of_ble_eq_true rfl) (Nat.le_of_ble_eq_true rfl) (t_X8_sideOf hk hf) (fun r1 σ1 hc1 => ?_)
  obtain ⟨rfl, rfl⟩ := hc1
  refine q_S1i (pc := 4) dX8_awryOf_4 vX8_162 (Nat.le_of_ble_eq_true rfl) (Nat.le_of_ble_eq_true rfl) (t_X8_off (by omega)) (fun r2 σ2 hc2 => ?_)
  obtain ⟨rfl, rfl⟩ := hc2
  refine q_aload_n (pc := 7) dX8_awryOf_7 rfl ?_
  refine q_S1i (pc := 8) dX8_awryOf_8 vX8_165 (Nat.le_of_ble_eq_true rfl) (Nat.le_of_ble_eq_true rfl) (t_X8_alongOf hk hf hO) (fun r3 σ3 hc3 => ?_)
  obtain ⟨rfl, rfl⟩ := hc3
  refine q_S1i (pc := 11) dX8_awryOf_11 vX8_162 (Nat.le_of_ble_eq_true rfl) (Nat.le_of_ble_eq_true rfl) (t_X8_off (by omega)) (fun r4 σ4 hc4 => ?_)
  obtain ⟨rfl, rfl⟩ := hc4
  refine q_iadd (pc := 14) dX8_awryOf_14 ?_
  refine q_ri (pc := 15) dX8_awryOf_15 rfl ?_
  exact ⟨rfl, rfl⟩
theorem mOff_in {a : Int} (h : -99 ≤ a ∧ a ≤ 99) : 0 ≤ mOff a ∧ mOff a ≤ 99 := by
  unfold mOff
  split <;> omega
theorem t_X8_isLevel (hk : qSh k = (1, 34, [])) (hf : RwR σ k f) (hO : mOk f) (h1 : 0 ≤ f 1 ∧ f 1 ≤ 9) (h2 : 0 ≤ f 2 ∧ f 2 ≤ 9) : qE G mX8_isLevel (d + 2) 0 [(0, vr k)] [] σ (ri fun x σ1 => bi (mLevel f) = x ∧ σ = σ1) := by
  have i1 := mSide_in hO
  have i2 := mAlong_in hO
  have i3 := mOff_in i1
  have i4 := mOff_in i2
  have e1 := hf 1 (by omega) (by omega)
  have e2 := hf 2 (by omega) (by omega)
  refine q_aload_n (pc := 0) dX8_isLevel_0 rfl ?_
  refine q_S1i (pc := 1) dX8_isLevel_1 vX8_159 (Nat.le_of_ble_eq_true rfl) (Nat.le_of_ble_eq_true rfl) (t_X8_sideOf hk hf) (fun r1 σ1 hc1 => ?_)
  obtain ⟨rfl, rfl⟩ := hc1
  refine q_S1i (pc := 4) dX8_isLevel_4 vX8_162 (Nat.le_of_ble_eq_true rfl) (Nat.le_of_ble_eq_true rfl) (t_X8_off (by omega)) (fun r2 σ2 hc2 => ?_)
  obtain ⟨rfl, rfl⟩ := hc2
  refine q_aload_n (pc := 7) dX8_isLevel_7 rfl ?_
  refine q_iconst (pc := 8) dX8_isLevel_8 ?_
  refine q_iald (pc := 9) dX8_isLevel_9 (by first | assumption | rfl) (by omega) ?_
  refine q_icmpgt (pc := 10) (tgt := 30) dX8_isLevel_10 (by decide) (by omega) (by omega) (fun h10 => ?_) (fun h10 => ?_)
  · refine q_iconst (pc := 30) dX8_isLevel_30 ?_
    refine q_rz (pc := 31) dX8_isLevel_31 rfl (by first | exact bi_01 _ | omega) ?_
    refine ⟨?_, rfl⟩
    unfold bi mLevel
    split <;> omega
  · refine q_aload_n (pc := 13) dX8_isLevel_13 rfl ?_
    refine q_S1i (pc := 14) dX8_isLevel_14 vX8_165 (Nat.le_of_ble_eq_true rfl) (Nat.le_of_ble_eq_true rfl) (t_X8_alongOf hk hf hO) (fun r3 σ3 hc3 => ?_)
    obtain ⟨rfl, rfl⟩ := hc3
    refine q_S1i (pc := 17) dX8_isLevel_17 vX8_162 (Nat.le_of_ble_eq_true rfl) (Nat.le_of_ble_eq_true rfl) (t_X8_off (by omega)) (fun r4 σ4 hc4 => ?_)
    obtain ⟨rfl, rfl⟩ := hc4
    refine q_aload_n (pc := 20) dX8_isLevel_20 rfl ?_
    refine q_iconst (pc := 21) dX8_isLevel_21 ?_
    refine q_iald (pc := 22) dX8_isLevel_22 (by first | assumption | rfl) (by omega) ?_
    refine q_icmpgt (pc := 23) (tgt := 30) dX8_isLevel_23 (by decide) (by omega) (by omega) (fun h23 => ?_) (fun h23 => ?_)
    · refine q_iconst (pc := 30) dX8_isLevel_30 ?_
      refine q_rz (pc := 31) dX8_isLevel_31 rfl (by first | exact bi_01 _ | omega) ?_
      refine ⟨?_, rfl⟩
      unfold bi mLevel
      split <;> omega
    · refine q_iconst (pc := 26) dX8_isLevel_26 ?_
      refine q_goto (pc := 27) (tgt := 31) dX8_isLevel_27 (by decide) ?_
      refine q_rz (pc := 31) dX8_isLevel_31 rfl (by first | exact bi_01 _ | omega) ?_
      refine ⟨?_, rfl⟩
      unfold bi mLevel
      split <;> omega
theorem t_X8_lifts {i b : Int} (hk : qSh k = (1, 34, [])) (hf : RwR σ k f) (hO : mOk f) (h0 : 0 ≤ i) (h2 : i ≤ 2) (hb : -1000000 ≤ b ∧ b ≤ 1000000) : qE G mX8_lifts d 0 [(0, vr k), (1, vi i), (2, vi b)] [] σ (rv fun σ1 => Fr σ σ1 [k] ∧ RwR σ1 k (mLift f i b) ∧ mOk (mLift f i b)) := by
  have e := hf (7 + i) (by omega) (by omega)
  have e2 := hO.h h0 h2
  refine q_aload_n (pc := 0) dX8_lifts_0 rfl ?_
  refine q_bipush (pc := 1) dX8_lifts_1 (by decide +kernel) ?_
  refine q_iload_n (pc := 3) dX8_lifts_3 rfl ?_
  refine q_iadd (pc := 4) dX8_lifts_4 ?_
  refine q_iald (pc := 5) dX8_lifts_5 (by first | assumption | rfl) (by omega) ?_
  refine q_iload_n (pc := 6) dX8_lifts_6 rfl ?_
  refine q_iadd (pc := 7) dX8_lifts_7 ?_
  refine q_istore_n (pc := 8) dX8_lifts_8 (Nat.le_of_ble_eq_true rfl) ?_
  refine q_aload_n (pc := 9) dX8_lifts_9 rfl ?_
  refine q_bipush (pc := 10) dX8_lifts_10 (by decide +kernel) ?_
  refine q_iload_n (pc := 12) dX8_lifts_12 rfl ?_
  refine q_iadd (pc := 13) dX8_lifts_13 ?_
  refine q_iload_n (pc := 14) dX8_lifts_14 rfl ?_
  refine q_ifge (pc := 15) (tgt := 22) dX8_lifts_15 (by decide) (by omega) (fun h15 => ?_) (fun h15 => ?_)
  · refine q_iload_n (pc := 22) dX8_lifts_22 rfl ?_
    refine q_bipush (pc := 23) dX8_lifts_23 (by decide +kernel) ?_
    refine q_icmple (pc := 25) (tgt := 33) dX8_lifts_25 (by decide) (by omega) (by omega) (fun h25 => ?_) (fun h25 => ?_)
    · refine q_iload_n (pc := 33) dX8_lifts_33 rfl ?_
      refine q_iast (pc := 34) dX8_lifts_34 (by first | assumption | rfl) (by omega) ?_
      refine q_rv (pc := 35) dX8_lifts_35 rfl ?_
      refine ⟨Fr.up (by simp), ?_, mLift_ok hO h0 h2⟩
      have hv : ∀ v, v = mClamp (f (7 + i) + b) → RwR (up σ k (7 + i) v) k (mLift f i b) := fun v hv => by subst hv; exact hf.up
      apply hv
      unfold mClamp
      first
      | (rw [if_pos (by omega)]; done)
      | (rw [if_neg (by omega), if_pos (by omega)]; done)
      | (rw [if_neg (by omega), if_neg (by omega)]; omega)
    · refine q_bipush (pc := 28) dX8_lifts_28 (by decide +kernel) ?_
      refine q_goto (pc := 30) (tgt := 34) dX8_lifts_30 (by decide) ?_
      refine q_iast (pc := 34) dX8_lifts_34 (by first | assumption | rfl) (by omega) ?_
      refine q_rv (pc := 35) dX8_lifts_35 rfl ?_
      refine ⟨Fr.up (by simp), ?_, mLift_ok hO h0 h2⟩
      have hv : ∀ v, v = mClamp (f (7 + i) + b) → RwR (up σ k (7 + i) v) k (mLift f i b) := fun v hv => by subst hv; exact hf.up
      apply hv
      unfold mClamp
      first
      | (rw [if_pos (by omega)]; done)
      | (rw [if_neg (by omega), if_pos (by omega)]; done)
      | (rw [if_neg (by omega), if_neg (by omega)]; omega)
  · refine q_iconst (pc := 18) dX8_lifts_18 ?_
    refine q_goto (pc := 19) (tgt := 34) dX8_lifts_19 (by decide) ?_
    refine q_iast (pc := 34) dX8_lifts_34 (by first | assumption | rfl) (by omega) ?_
    refine q_rv (pc := 35) dX8_lifts_35 rfl ?_
    refine ⟨Fr.up (by simp), ?_, mLift_ok hO h0 h2⟩
    have hv : ∀ v, v = mClamp (f (7 + i) + b) → RwR (up σ k (7 + i) v) k (mLift f i b) := fun v hv => by subst hv; exact hf.up
    apply hv
    unfold mClamp
    first
    | (rw [if_pos (by omega)]; done)
    | (rw [if_neg (by omega), if_pos (by omega)]; done)
    | (rw [if_neg (by omega), if_neg (by omega)]; omega)
theorem t_X8_winds {b : Int} (hk : qSh k = (1, 34, [])) (hf : RwR σ k f) (hO : mOk f) (hb : -10000 ≤ b ∧ b ≤ 10000) : qE G mX8_winds (d + 2) 0 [(0, vr k), (1, vi b)] [] σ (rv fun σ1 => Fr σ σ1 [k] ∧ RwR σ1 k (mWind f b) ∧ mOk (mWind f b)) := by
  have i2 := mAlong_in hO
  refine q_aload_n (pc := 0) dX8_winds_0 rfl ?_
  refine q_iconst (pc := 1) dX8_winds_1 ?_
  refine q_aload_n (pc := 2) dX8_winds_2 rfl ?_
  refine q_S1i (pc := 3) dX8_winds_3 vX8_165 (Nat.le_of_ble_eq_true rfl) (Nat.le_of_ble_eq_true rfl) (t_X8_alongOf hk hf hO) (fun r1 σ1 hc1 => ?_)
  obtain ⟨rfl, rfl⟩ := hc1
  refine q_ifge (pc := 6) (tgt := 13) dX8_winds_6 (by decide) (by omega) (fun h6 => ?_) (fun h6 => ?_)
  · refine q_iload_n (pc := 13) dX8_winds_13 rfl ?_
    refine q_ineg (pc := 14) dX8_winds_14 ?_
    refine q_S3v (pc := 15) dX8_winds_15 vX8_168 (Nat.le_of_ble_eq_true rfl) (Nat.le_of_ble_eq_true rfl) (t_X8_lifts hk hf hO (by omega) (by omega) (by omega)) (fun σ2 hc2 => ?_)
    obtain ⟨hF2, hf, hO⟩ := hc2
    refine q_rv (pc := 18) dX8_winds_18 rfl ?_
    unfold mWind
    first
    | (rw [if_pos (by omega)]; exact ⟨hF2, hf, hO⟩)
    | (rw [if_neg (by omega)]; exact ⟨hF2, hf, hO⟩)
    | (rw [if_pos (by omega)]; exact ⟨hF3, hf, hO⟩)
    | (rw [if_neg (by omega)]; exact ⟨hF3, hf, hO⟩)
  · refine q_iload_n (pc := 9) dX8_winds_9 rfl ?_
    refine q_goto (pc := 10) (tgt := 15) dX8_winds_10 (by decide) ?_
    refine q_S3v (pc := 15) dX8_winds_15 vX8_168 (Nat.le_of_ble_eq_true rfl) (Nat.le_of_ble_eq_true rfl) (t_X8_lifts hk hf hO (by omega) (by omega) (by omega)) (fun σ3 hc3 => ?_)
    obtain ⟨hF3, hf, hO⟩ := hc3
    refine q_rv (pc := 18) dX8_winds_18 rfl ?_
    unfold mWind
    first
    | (rw [if_pos (by omega)]; exact ⟨hF2, hf, hO⟩)
    | (rw [if_neg (by omega)]; exact ⟨hF2, hf, hO⟩)
    | (rw [if_pos (by omega)]; exact ⟨hF3, hf, hO⟩)
    | (rw [if_neg (by omega)]; exact ⟨hF3, hf, hO⟩)
end T8
