/-! ===== the reference: keep, hours, perform, board, amount, jack, undo ===== -/
section T8
variable {G : qGl} {d : Nat} {σ : qM} {A : qA} {f : Int → Int}
/-- a new list of acts, told by the 89th cell and a field -/
theorem MR.acts {σ1 : qM} {as : List (Int → Int)} (h : MR σ A) (hF : Fr σ σ1 [82, 89]) (h8 : ∀ i, i ≠ 9 → σ1 82 i = σ 82 i) (ha : AcM σ1 as) : MR σ1 (A.1, as, A.2.2) := by
  have e : ∀ j : Nat, j ≠ 82 → j ≠ 89 → σ1 j = σ j := fun j h1 h2 => hF j (by simp; omega)
  obtain ⟨h1, h2, h3, h4, h5, h6, h7, h8'⟩ := h
  refine ⟨?_, ha, ?_, ?_, ?_, ?_, ?_, ?_⟩
  · unfold RwR; rw [e 86 (by omega) (by omega)]; exact h1
  · rw [h8 1 (by omega)]; exact h3
  · rw [h8 18 (by omega)]; exact h4
  · unfold ShM; rw [e 83 (by omega) (by omega), e 84 (by omega) (by omega), e 85 (by omega) (by omega)]; exact h5
  · rw [h8 11 (by omega), e 90 (by omega) (by omega)]; exact h6
  · rw [e 93 (by omega) (by omega), e 94 (by omega) (by omega)]; exact h7
  · rw [h8 24 (by omega), e 95 (by omega) (by omega)]; exact h8'
theorem AcM.keep {σ1 : qM} {as : List (Int → Int)} (h : AcM σ as) (hl : as.length ≤ 24) (h9 : σ1 82 9 = if as.length = 24 then 24 else (as.length : Int) + 1)
    (hs : ∀ j, 0 ≤ j → j < 34 * (σ1 82 9 - 1) → σ1 89 j = if as.length = 24 then σ 89 (j + 34) else σ 89 j) (hn : ∀ j, 0 ≤ j → j < 34 → σ1 89 (34 * (σ1 82 9 - 1) + j) = f j) : AcM σ1 ((f :: as).take 24) := by
  obtain ⟨a1, a2⟩ := h
  by_cases c : as.length = 24
  · rw [if_pos c] at h9
    have hL : ((f :: as).take 24).length = 24 := by rw [List.length_take, List.length_cons]; omega
    refine ⟨by rw [hL, h9]; rfl, fun i g hg j h0 h1 => ?_⟩
    rw [hL]
    cases i with
    | zero =>
      have : g = f := by simpa using hg.symm
      subst this
      have := hn j h0 h1
      rw [h9] at this
      exact this
    | succ i =>
      have hi : i + 1 < 24 := by
        have := (List.getElem?_eq_some_iff.mp hg).1
        omega
      have hg2 : as[i]? = some g := by
        rw [List.getElem?_take] at hg
        split at hg
        · simpa using hg
        · omega
      have q := a2 i g hg2 j h0 h1
      rw [hs _ (by omega) (by omega), if_pos c, ← q]
      congr 1
      omega
  · rw [if_neg c] at h9
    have hL : ((f :: as).take 24).length = as.length + 1 := by rw [List.length_take, List.length_cons]; omega
    refine ⟨by rw [hL, h9]; rfl, fun i g hg j h0 h1 => ?_⟩
    rw [hL]
    cases i with
    | zero =>
      have : g = f := by simpa using hg.symm
      subst this
      have := hn j h0 h1
      rw [h9] at this
      rw [← this]
      congr 1
      omega
    | succ i =>
      have hg2 : as[i]? = some g := by
        rw [List.getElem?_take] at hg
        split at hg
        · simpa using hg
        · simp at hg
      have hi : i < as.length := (List.getElem?_eq_some_iff.mp hg2).1
      have q := a2 i g hg2 j h0 h1
      rw [hs _ (by omega) (by omega), if_neg c, ← q]
      congr 1
      omega
theorem m_keep_l1 {Q : Option qV → qM → Prop} (hx : ∀ σ1 x, Fr σ σ1 [89] → (∀ j, 0 ≤ j → j < 782 → σ1 89 j = σ 89 (j + 34)) → qE G mX8_keep d 39 [(1, vi x), (0, vr 82)] [] σ1 Q) : ∀ (m k : Nat) (σ' : qM), m + k = 782 → Fr σ σ' [89] → (∀ j, σ' 89 j = if 0 ≤ j ∧ j < (k : Int) then σ 89 (j + 34) else σ 89 j) → qE G mX8_keep d 11 [(1, vi k), (0, vr 82)] [] σ' Q := by
  intro m
  induction m with
  | zero =>
    intro k σ' hk hF h
    refine q_iload_n (pc := 11) dX8_keep_11 rfl ?_
    refine q_sipush (pc := 12) dX8_keep_12 (by decide +kernel) ?_
    refine q_icmpge (pc := 15) (tgt := 39) dX8_keep_15 (by decide) (by omega) (by omega) (fun h15 => ?_) (fun h => absurd h (by omega))
    exact hx σ' k hF (fun j h0 h1 => by rw [h j, if_pos (by omega)])
  | succ m ih =>
    intro k σ' hk hF h
    refine q_iload_n (pc := 11) dX8_keep_11 rfl ?_
    refine q_sipush (pc := 12) dX8_keep_12 (by decide +kernel) ?_
    refine q_icmpge (pc := 15) (tgt := 39) dX8_keep_15 (by decide) (by omega) (by omega) (fun h => absurd h (by omega)) (fun h15 => ?_)
    refine q_aload_n (pc := 18) dX8_keep_18 rfl ?_
    refine q_getR (pc := 19) dX8_keep_19 fX8_28 rfl rfl ?_
    refine q_iload_n (pc := 22) dX8_keep_22 rfl ?_
    refine q_aload_n (pc := 23) dX8_keep_23 rfl ?_
    refine q_getR (pc := 24) dX8_keep_24 fX8_28 rfl rfl ?_
    refine q_iload_n (pc := 27) dX8_keep_27 rfl ?_
    refine q_bipush (pc := 28) dX8_keep_28 (by decide +kernel) ?_
    refine q_iadd (pc := 30) dX8_keep_30 ?_
    refine q_iald (pc := 31) dX8_keep_31 rfl (by omega) ?_
    refine q_iast (pc := 32) dX8_keep_32 rfl (by omega) ?_
    refine q_iinc (pc := 33) dX8_keep_33 rfl (Nat.le_of_ble_eq_true rfl) ?_
    refine q_goto (pc := 36) (tgt := 11) dX8_keep_36 (by decide) ?_
    have q := ih (k + 1) (up σ' 89 k (σ' 89 (k + 34))) (by omega) (hF.tt (Fr.up (by simp))) (fun j => ?_)
    · exact q_locs _ [0, 1] rfl q
    · rw [up_same, h, h]
      by_cases c : j = k
      · rw [if_pos c, if_neg (by omega), if_pos (by omega), c]
      · rw [if_neg c]
        by_cases c2 : 0 ≤ j ∧ j < (k : Int)
        · rw [if_pos c2, if_pos (by omega)]
        · rw [if_neg c2, if_neg (by omega)]
theorem m_keep_l2 {Q : Option qV → qM → Prop} {a : Int} (ha : 0 ≤ a ∧ a ≤ 23) (h9 : σ 82 9 = a) (hx : ∀ σ1 x, Fr σ σ1 [89] → (∀ j, σ1 89 j = if 34 * a ≤ j ∧ j < 34 * a + 34 then σ 86 (j - 34 * a) else σ 89 j) → qE G mX8_keep d 83 [(1, vi x), (0, vr 82)] [] σ1 Q) : ∀ (m k : Nat) (σ' : qM), m + k = 34 → Fr σ σ' [89] → (∀ j, σ' 89 j = if 34 * a ≤ j ∧ j < 34 * a + k then σ 86 (j - 34 * a) else σ 89 j) → qE G mX8_keep d 51 [(1, vi k), (0, vr 82)] [] σ' Q := by
  intro m
  induction m with
  | zero =>
    intro k σ' hk hF h
    refine q_iload_n (pc := 51) dX8_keep_51 rfl ?_
    refine q_bipush (pc := 52) dX8_keep_52 (by decide +kernel) ?_
    refine q_icmpge (pc := 54) (tgt := 83) dX8_keep_54 (by decide) (by omega) (by omega) (fun h54 => ?_) (fun h => absurd h (by omega))
    refine hx σ' k hF (fun j => ?_)
    rw [h j, show (k : Int) = 34 by omega]
  | succ m ih =>
    intro k σ' hk hF h
    have e9 : σ' 82 9 = a := by rw [hF 82 (by simp)]; exact h9
    have e6 : σ' 86 = σ 86 := hF 86 (by simp)
    refine q_iload_n (pc := 51) dX8_keep_51 rfl ?_
    refine q_bipush (pc := 52) dX8_keep_52 (by decide +kernel) ?_
    refine q_icmpge (pc := 54) (tgt := 83) dX8_keep_54 (by decide) (by omega) (by omega) (fun h => absurd h (by omega)) (fun h54 => ?_)
    refine q_aload_n (pc := 57) dX8_keep_57 rfl ?_
    refine q_getR (pc := 58) dX8_keep_58 fX8_28 rfl rfl ?_
    refine q_bipush (pc := 61) dX8_keep_61 (by decide +kernel) ?_
    refine q_aload_n (pc := 63) dX8_keep_63 rfl ?_
    refine q_gI (pc := 64) 9 dX8_keep_64 fX8_152 rfl rfl rfl ?_
    refine q_imul (pc := 67) dX8_keep_67 ?_
    refine q_iload_n (pc := 68) dX8_keep_68 rfl ?_
    refine q_iadd (pc := 69) dX8_keep_69 ?_
    refine q_aload_n (pc := 70) dX8_keep_70 rfl ?_
    refine q_getR (pc := 71) dX8_keep_71 fX8_19 rfl rfl ?_
    refine q_iload_n (pc := 74) dX8_keep_74 rfl ?_
    refine q_iald (pc := 75) dX8_keep_75 rfl (by omega) ?_
    refine q_iast (pc := 76) dX8_keep_76 rfl (by omega) ?_
    refine q_iinc (pc := 77) dX8_keep_77 rfl (Nat.le_of_ble_eq_true rfl) ?_
    refine q_goto (pc := 80) (tgt := 51) dX8_keep_80 (by decide) ?_
    have q := ih (k + 1) (up σ' 89 (34 * σ' 82 9 + k) (σ' 86 k)) (by omega) (hF.tt (Fr.up (by simp))) (fun j => ?_)
    · exact q_locs _ [0, 1] rfl q
    · rw [up_same, h, e9, e6]
      by_cases c : j = 34 * a + k
      · rw [if_pos c, if_pos (by omega), c]
        congr 1
        omega
      · rw [if_neg c]
        by_cases c2 : 34 * a ≤ j ∧ j < 34 * a + (k : Int)
        · rw [if_pos c2, if_pos (by omega)]
        · rw [if_neg c2, if_neg (by omega)]
theorem m_keep (hM : MR σ A) (hV : AV A) : qE G mX8_keep d 0 [(0, vr 82)] [] σ (rv fun σ1 => Fr σ σ1 [82, 89] ∧ MR σ1 (ak A)) := by
  have hl := hV.2.1.1
  have hA := hM.2.1
  have h9 := hA.1
  have hf := hM.1
  refine q_aload_n (pc := 0) dX8_keep_0 rfl ?_
  refine q_gI (pc := 1) 9 dX8_keep_1 fX8_152 rfl rfl rfl ?_
  refine q_bipush (pc := 4) dX8_keep_4 (by decide +kernel) ?_
  refine q_icmpne (pc := 6) (tgt := 49) dX8_keep_6 (by decide) (by omega) (by omega) (fun h6 => ?_) (fun h6 => ?_)
  · refine q_iconst (pc := 49) dX8_keep_49 ?_
    refine q_istore_n (pc := 50) dX8_keep_50 (Nat.le_of_ble_eq_true rfl) ?_
    refine m_keep_l2 (a := A.2.1.length) (by omega) (by omega) (fun σ1 x hF1 h1 => ?_) 34 0 σ rfl Fr.rf (fun j => by rw [if_neg (by omega)])
    have e82 : σ1 82 = σ 82 := hF1 82 (by simp)
    have e9 : σ1 82 9 = A.2.1.length := by rw [e82]; exact h9
    refine q_aload_n (pc := 83) dX8_keep_83 rfl ?_
    refine q_dup (pc := 84) dX8_keep_84 rfl ?_
    refine q_gI (pc := 85) 9 dX8_keep_85 fX8_152 rfl rfl rfl ?_
    refine q_iconst (pc := 88) dX8_keep_88 ?_
    refine q_iadd (pc := 89) dX8_keep_89 ?_
    refine q_pI (pc := 90) 9 dX8_keep_90 wX8_152 rfl rfl rfl ?_
    refine q_rv (pc := 93) dX8_keep_93 rfl ?_
    have hF : Fr σ (up σ1 82 9 (σ1 82 9 + 1)) [82, 89] := Fr.tr hF1 (Fr.up (S := [82]) (by decide)) (fun j q => by simp at q ⊢; omega)
    refine ⟨hF, hM.acts hF (fun i hi => by rw [up_same, if_neg hi, e82]) ?_⟩
    refine hA.keep hl (by rw [up_same, if_pos rfl, if_neg (by omega), e9]) (fun j h0 hj => ?_) (fun j h0 hj => ?_)
    · rw [up_same, if_pos rfl] at hj
      rw [up_ne (by omega), if_neg (by omega), h1, if_neg (by omega)]
    · rw [up_same, if_pos rfl, up_ne (by omega), h1, if_pos (by omega)]
      refine Eq.trans ?_ (hf j h0 hj)
      congr 1
      omega
  · refine q_iconst (pc := 9) dX8_keep_9 ?_
    refine q_istore_n (pc := 10) dX8_keep_10 (Nat.le_of_ble_eq_true rfl) ?_
    refine m_keep_l1 (fun σ1 x hF1 h1 => ?_) 782 0 σ rfl Fr.rf (fun j => by rw [if_neg (by omega)])
    have e82 : σ1 82 = σ 82 := hF1 82 (by simp)
    have e86 : σ1 86 = σ 86 := hF1 86 (by simp)
    have e9 : σ1 82 9 = 24 := by rw [e82]; omega
    refine q_aload_n (pc := 39) dX8_keep_39 rfl ?_
    refine q_dup (pc := 40) dX8_keep_40 rfl ?_
    refine q_gI (pc := 41) 9 dX8_keep_41 fX8_152 rfl rfl rfl ?_
    refine q_iconst (pc := 44) dX8_keep_44 ?_
    refine q_isub (pc := 45) dX8_keep_45 ?_
    refine q_pI (pc := 46) 9 dX8_keep_46 wX8_152 rfl rfl rfl ?_
    refine q_iconst (pc := 49) dX8_keep_49 ?_
    refine q_istore_n (pc := 50) dX8_keep_50 (Nat.le_of_ble_eq_true rfl) ?_
    refine m_keep_l2 (σ := up σ1 82 9 (σ1 82 9 - 1)) (a := 23) (by omega) (by rw [up_same, if_pos rfl]; omega) (fun σ2 x hF2 h2 => ?_) 34 0 _ rfl Fr.rf (fun j => by rw [if_neg (by omega)])
    have f82 : σ2 82 = up σ1 82 9 (σ1 82 9 - 1) 82 := hF2 82 (by simp)
    have e9 : σ2 82 9 = 23 := by rw [f82, up_same, if_pos rfl]; omega
    refine q_aload_n (pc := 83) dX8_keep_83 rfl ?_
    refine q_dup (pc := 84) dX8_keep_84 rfl ?_
    refine q_gI (pc := 85) 9 dX8_keep_85 fX8_152 rfl rfl rfl ?_
    refine q_iconst (pc := 88) dX8_keep_88 ?_
    refine q_iadd (pc := 89) dX8_keep_89 ?_
    refine q_pI (pc := 90) 9 dX8_keep_90 wX8_152 rfl rfl rfl ?_
    refine q_rv (pc := 93) dX8_keep_93 rfl ?_
    have hF : Fr σ (up σ2 82 9 (σ2 82 9 + 1)) [82, 89] := fun j hj => by
      simp at hj
      rw [up_ne (by omega), hF2 j (by simp; omega), up_ne (by omega), hF1 j (by simp; omega)]
    refine ⟨hF, hM.acts hF (fun i hi => by rw [up_same, if_neg hi, f82, up_same, if_neg hi, e82]) ?_⟩
    refine hA.keep hl (by rw [up_same, if_pos rfl, if_pos (by omega), e9]; rfl) (fun j h0 hj => ?_) (fun j h0 hj => ?_)
    · rw [up_same, if_pos rfl] at hj
      rw [up_ne (by omega), if_pos (by omega), h2, if_neg (by omega), up_ne (by omega), h1 j h0 (by omega)]
    · rw [up_same, if_pos rfl, up_ne (by omega), h2, if_pos (by omega), up_ne (by omega), e86]
      refine Eq.trans ?_ (hf j h0 hj)
      congr 1
      omega

theorem m_hours_l {n : Int} (hV : AV A) (h1 : A.1 0 = 1) (hn : 1 ≤ n ∧ n ≤ 24) (h9 : A.1 4 + n ≤ 999) {σ0 : qM} : ∀ (m k : Nat) (σ : qM), (m : Int) + k = n → (∀ j, j < 82 → σ j = σ0 j) → MR σ (hK k A) → qE G mX8_hours (d + 4) 49 [(2, vi k), (0, vr 82), (1, vi n)] [] σ (ri (pM σ0 (s_hours A n))) := by
  intro m
  induction m with
  | zero =>
    intro k σ hk hF hM
    have hv := hK_av hV h1 k (by omega)
    have hO := hv.1.1.1
    refine q_iload_n (pc := 49) dX8_hours_49 rfl ?_
    refine q_iload_n (pc := 50) dX8_hours_50 rfl ?_
    refine q_icmpge (pc := 51) (tgt := 71) dX8_hours_51 (by decide) (by omega) (by omega) (fun h51 => ?_) (fun h => absurd h (by omega))
    refine q_aload_n (pc := 71) dX8_hours_71 rfl ?_
    refine q_getR (pc := 72) dX8_hours_72 fX8_19 rfl rfl ?_
    refine q_S1i (pc := 75) dX8_hours_75 vX8_193 (Nat.le_of_ble_eq_true rfl) (Nat.le_of_ble_eq_true rfl) (t_X8_awryOf sh86 hM.1 hO) (fun r1 σ1 hc1 => ?_)
    obtain ⟨rfl, rfl⟩ := hc1
    refine q_ri (pc := 78) dX8_hours_78 rfl ?_
    have e : s_hours A n = (mAwry (hK k A).1, hK k A) := by
      unfold s_hours
      rw [if_pos h1, if_pos hn, if_neg (by omega), show n.toNat = k by omega]
    exact ⟨_, e, hF, hM⟩
  | succ m ih =>
    intro k σ hk hF hM
    obtain ⟨hv, hv1, hv2⟩ := hK_av hV h1 k (by omega)
    have hl := hv.1.law hv1
    refine q_iload_n (pc := 49) dX8_hours_49 rfl ?_
    refine q_iload_n (pc := 50) dX8_hours_50 rfl ?_
    refine q_icmpge (pc := 51) (tgt := 71) dX8_hours_51 (by decide) (by omega) (by omega) (fun h => absurd h (by omega)) (fun h51 => ?_)
    refine q_aload_n (pc := 54) dX8_hours_54 rfl ?_
    refine q_V0v (pc := 55) dX8_hours_55 vX8_190 rfl rfl (Nat.le_of_ble_eq_true rfl) (Nat.le_of_ble_eq_true rfl) (m_keep hM hv) (fun σ1 hc1 => ?_)
    obtain ⟨hF1, hM1⟩ := hc1
    refine q_aload_n (pc := 58) dX8_hours_58 rfl ?_
    refine q_getR (pc := 59) dX8_hours_59 fX8_19 rfl rfl ?_
    refine q_S1v (pc := 62) dX8_hours_62 vX8_180 (Nat.le_of_ble_eq_true rfl) (Nat.le_of_ble_eq_true rfl) (t_X8_hour sh86 hM1.1 hv.1.1 hl.2.2.1 (by show 0 ≤ (hK k A).1 4 ∧ (hK k A).1 4 ≤ 100000; have := hv.1.2.1; omega)) (fun σ2 hc2 => ?_)
    obtain ⟨hF2, hf2, hO2⟩ := hc2
    refine q_iinc (pc := 65) dX8_hours_65 rfl (Nat.le_of_ble_eq_true rfl) ?_
    refine q_goto (pc := 68) (tgt := 49) dX8_hours_68 (by decide) ?_
    have q := ih (k + 1) σ2 (by omega) (fun j hj => by rw [hF2.m (by decide) j hj, hF1.m (by decide) j hj]; exact hF j hj) (hM1.row hF2 (by decide) hf2)
    exact q_locs _ [0, 1, 2] rfl q
theorem m_hours {n : Int} (hM : MR σ A) (hV : AV A) (hn : -2147483648 ≤ n ∧ n ≤ 2147483647) : qE G mX8_hours (d + 4) 0 [(0, vr 82), (1, vi n)] [] σ (ri (pM σ (s_hours A n))) := by
  have hR := hV.1
  have h01 := hR.f0
  have h4 := hR.2.1
  refine q_aload_n (pc := 0) dX8_hours_0 rfl ?_
  refine q_iconst (pc := 1) dX8_hours_1 ?_
  refine q_pI (pc := 2) 0 dX8_hours_2 wX8_50 rfl rfl rfl ?_
  have hM := hM.fld (i := 0) (v := 0) (by decide)
  have hF0 : ∀ j, j < 82 → up σ 82 0 0 j = σ j := fun j hj => up_ne (by omega)
  generalize up σ 82 0 0 = τ at hM hF0 ⊢
  have e4 := hM.1 4 (by omega) (by omega)
  refine q_aload_n (pc := 5) dX8_hours_5 rfl ?_
  refine q_V0i (pc := 6) dX8_hours_6 vX8_184 rfl rfl (Nat.le_of_ble_eq_true rfl) (Nat.le_of_ble_eq_true rfl) (t_X8_isThere hM.1 h01) (fun r1 σ1 hc1 => ?_)
  obtain ⟨rfl, rfl⟩ := hc1
  refine q_ifneb (pc := 9) (tgt := 15) dX8_hours_9 (by decide) (fun h9 => ?_) (fun h9 => ?_)
  · refine q_iload_n (pc := 15) dX8_hours_15 rfl ?_
    refine q_i2l (pc := 16) dX8_hours_16 (by omega) ?_
    refine q_lconst1 (pc := 17) dX8_hours_17 ?_
    refine q_ldc2 (pc := 18) (n := 24) kX8_188 dX8_hours_18 ?_
    refine q_S3i (pc := 21) dX8_hours_21 vX8_60 (Nat.le_of_ble_eq_true rfl) (Nat.le_of_ble_eq_true rfl) (t_X8_in (by omega) (by omega) (by omega)) (fun r2 σ2 hc2 => ?_)
    obtain ⟨rfl, rfl⟩ := hc2
    refine q_ifneb (pc := 24) (tgt := 30) dX8_hours_24 (by decide) (fun h24 => ?_) (fun h24 => ?_)
    · refine q_aload_n (pc := 30) dX8_hours_30 rfl ?_
      refine q_getR (pc := 31) dX8_hours_31 fX8_19 rfl rfl ?_
      refine q_iconst (pc := 34) dX8_hours_34 ?_
      refine q_iald (pc := 35) dX8_hours_35 rfl (by omega) ?_
      refine q_iload_n (pc := 36) dX8_hours_36 rfl ?_
      refine q_iadd (pc := 37) dX8_hours_37 ?_
      refine q_sipush (pc := 38) dX8_hours_38 (by decide +kernel) ?_
      refine q_icmple (pc := 41) (tgt := 47) dX8_hours_41 (by decide) (by omega) (by omega) (fun h41 => ?_) (fun h41 => ?_)
      · refine q_iconst (pc := 47) dX8_hours_47 ?_
        refine q_istore_n (pc := 48) dX8_hours_48 (Nat.le_of_ble_eq_true rfl) ?_
        exact m_hours_l hV (by omega) (by omega) (by omega) n.toNat 0 τ (by omega) hF0 hM
      · refine q_ldc (pc := 44) (n := -1000003) kX8_80 dX8_hours_44 ?_
        refine q_ri (pc := 46) dX8_hours_46 rfl ?_
        refine ⟨A, ?_, hF0, hM⟩
        first | unfold s_hours | unfold s_perform | unfold s_board | unfold s_amount | unfold s_jack
        repeat' (first | rw [if_neg (by omega)] | rw [if_pos (by omega)] | rw [if_pos (by assumption)] | rw [if_neg (by assumption)])
    · refine q_ldc (pc := 27) (n := -1000001) kX8_70 dX8_hours_27 ?_
      refine q_ri (pc := 29) dX8_hours_29 rfl ?_
      refine ⟨A, ?_, hF0, hM⟩
      first | unfold s_hours | unfold s_perform | unfold s_board | unfold s_amount | unfold s_jack
      repeat' (first | rw [if_neg (by omega)] | rw [if_pos (by omega)] | rw [if_pos (by assumption)] | rw [if_neg (by assumption)])
  · refine q_ldc (pc := 12) (n := -1000002) kX8_187 dX8_hours_12 ?_
    refine q_ri (pc := 14) dX8_hours_14 rfl ?_
    refine ⟨A, ?_, hF0, hM⟩
    first | unfold s_hours | unfold s_perform | unfold s_board | unfold s_amount | unfold s_jack
    repeat' (first | rw [if_neg (by omega)] | rw [if_pos (by omega)] | rw [if_pos (by assumption)] | rw [if_neg (by assumption)])
theorem m_perform {i : Int} (hM : MR σ A) (hV : AV A) (hi : -2147483648 ≤ i ∧ i ≤ 2147483647) : qE G mX8_perform (d + 4) 0 [(0, vr 82), (1, vi i)] [] σ (ri (pM σ (s_perform A i))) := by
  have hR := hV.1
  have h5 := hR.de
  refine q_aload_n (pc := 0) dX8_perform_0 rfl ?_
  refine q_iconst (pc := 1) dX8_perform_1 ?_
  refine q_pI (pc := 2) 0 dX8_perform_2 wX8_50 rfl rfl rfl ?_
  have hM := hM.fld (i := 0) (v := 0) (by decide)
  have hF0 : ∀ j, j < 82 → up σ 82 0 0 j = σ j := fun j hj => up_ne (by omega)
  generalize up σ 82 0 0 = τ at hM hF0 ⊢
  refine q_aload_n (pc := 5) dX8_perform_5 rfl ?_
  refine q_iload_n (pc := 6) dX8_perform_6 rfl ?_
  refine q_V1i (pc := 7) dX8_perform_7 vX8_196 rfl rfl (Nat.le_of_ble_eq_true rfl) (Nat.le_of_ble_eq_true rfl) (t_X8_isDeed hM.1 h5 (by omega)) (fun r1 σ1 hc1 => ?_)
  obtain ⟨rfl, rfl⟩ := hc1
  refine q_ifneb (pc := 10) (tgt := 16) dX8_perform_10 (by decide) (fun h10 => ?_) (fun h10 => ?_)
  · refine q_aload_n (pc := 16) dX8_perform_16 rfl ?_
    refine q_iload_n (pc := 17) dX8_perform_17 rfl ?_
    refine q_V1i (pc := 18) dX8_perform_18 vX8_199 rfl rfl (Nat.le_of_ble_eq_true rfl) (Nat.le_of_ble_eq_true rfl) (t_X8_isDone hM.1) (fun r2 σ2 hc2 => ?_)
    obtain ⟨rfl, rfl⟩ := hc2
    refine q_ifeqb (pc := 21) (tgt := 27) dX8_perform_21 (by decide) (fun h21 => ?_) (fun h21 => ?_)
    · refine q_aload_n (pc := 27) dX8_perform_27 rfl ?_
      refine q_V0v (pc := 28) dX8_perform_28 vX8_190 rfl rfl (Nat.le_of_ble_eq_true rfl) (Nat.le_of_ble_eq_true rfl) (m_keep hM hV) (fun σ3 hc3 => ?_)
      obtain ⟨hF3, hM3⟩ := hc3
      refine q_aload_n (pc := 31) dX8_perform_31 rfl ?_
      refine q_getR (pc := 32) dX8_perform_32 fX8_19 rfl rfl ?_
      refine q_iload_n (pc := 35) dX8_perform_35 rfl ?_
      refine q_S2v (pc := 36) dX8_perform_36 vX8_202 (Nat.le_of_ble_eq_true rfl) (Nat.le_of_ble_eq_true rfl) (t_X8_does sh86 hM3.1 hR (by show 0 ≤ i ∧ i < A.1 5; omega)) (fun σ4 hc4 => ?_)
      obtain ⟨hF4, hf4, hO4⟩ := hc4
      refine q_aload_n (pc := 39) dX8_perform_39 rfl ?_
      refine q_getR (pc := 40) dX8_perform_40 fX8_19 rfl rfl ?_
      refine q_S1i (pc := 43) dX8_perform_43 vX8_193 (Nat.le_of_ble_eq_true rfl) (Nat.le_of_ble_eq_true rfl) (t_X8_awryOf sh86 hf4 hO4) (fun r5 σ5 hc5 => ?_)
      obtain ⟨rfl, rfl⟩ := hc5
      refine q_ri (pc := 46) dX8_perform_46 rfl ?_
      have e : s_perform A i = (mAwry (mDo A.1 i), mDo A.1 i, kp A, A.2.2) := by
        unfold s_perform
        rw [if_pos (by omega), if_neg (by assumption)]
      exact ⟨_, e, fun j hj => by rw [hF4.m (by decide) j hj, hF3.m (by decide) j hj, hF0 j hj], hM3.row hF4 (by decide) hf4⟩
    · refine q_ldc (pc := 24) (n := -1000002) kX8_187 dX8_perform_24 ?_
      refine q_ri (pc := 26) dX8_perform_26 rfl ?_
      refine ⟨A, ?_, hF0, hM⟩
      first | unfold s_hours | unfold s_perform | unfold s_board | unfold s_amount | unfold s_jack
      repeat' (first | rw [if_neg (by omega)] | rw [if_pos (by omega)] | rw [if_pos (by assumption)] | rw [if_neg (by assumption)])
  · refine q_ldc (pc := 13) (n := -1000001) kX8_70 dX8_perform_13 ?_
    refine q_ri (pc := 15) dX8_perform_15 rfl ?_
    refine ⟨A, ?_, hF0, hM⟩
    first | unfold s_hours | unfold s_perform | unfold s_board | unfold s_amount | unfold s_jack
    repeat' (first | rw [if_neg (by omega)] | rw [if_pos (by omega)] | rw [if_pos (by assumption)] | rw [if_neg (by assumption)])
theorem m_board {i : Int} (hM : MR σ A) (hV : AV A) (hi : -2147483648 ≤ i ∧ i ≤ 2147483647) : qE G mX8_board (d + 3) 0 [(0, vr 82), (1, vi i)] [] σ (ri (pM σ (s_board A i))) := by
  have hR := hV.1
  have h01 := hR.f0
  refine q_aload_n (pc := 0) dX8_board_0 rfl ?_
  refine q_iconst (pc := 1) dX8_board_1 ?_
  refine q_pI (pc := 2) 0 dX8_board_2 wX8_50 rfl rfl rfl ?_
  have hM := hM.fld (i := 0) (v := 0) (by decide)
  have hF0 : ∀ j, j < 82 → up σ 82 0 0 j = σ j := fun j hj => up_ne (by omega)
  generalize up σ 82 0 0 = τ at hM hF0 ⊢
  refine q_aload_n (pc := 5) dX8_board_5 rfl ?_
  refine q_V0i (pc := 6) dX8_board_6 vX8_184 rfl rfl (Nat.le_of_ble_eq_true rfl) (Nat.le_of_ble_eq_true rfl) (t_X8_isThere hM.1 h01) (fun r1 σ1 hc1 => ?_)
  obtain ⟨rfl, rfl⟩ := hc1
  refine q_ifneb (pc := 9) (tgt := 15) dX8_board_9 (by decide) (fun h9 => ?_) (fun h9 => ?_)
  · refine q_iload_n (pc := 15) dX8_board_15 rfl ?_
    refine q_S1i (pc := 16) dX8_board_16 vX8_205 (Nat.le_of_ble_eq_true rfl) (Nat.le_of_ble_eq_true rfl) (t_X8_isFoot (by omega)) (fun r2 σ2 hc2 => ?_)
    obtain ⟨rfl, rfl⟩ := hc2
    refine q_ifneb (pc := 19) (tgt := 25) dX8_board_19 (by decide) (fun h19 => ?_) (fun h19 => ?_)
    · have es := hM.1 (10 + i) (by omega) (by omega)
      have eo := hR.1.s (i := i) (by omega) (by omega)
      refine q_aload_n (pc := 25) dX8_board_25 rfl ?_
      refine q_getR (pc := 26) dX8_board_26 fX8_19 rfl rfl ?_
      refine q_bipush (pc := 29) dX8_board_29 (by decide +kernel) ?_
      refine q_iload_n (pc := 31) dX8_board_31 rfl ?_
      refine q_iadd (pc := 32) dX8_board_32 ?_
      refine q_iald (pc := 33) dX8_board_33 rfl (by omega) ?_
      refine q_ifne (pc := 34) (tgt := 40) dX8_board_34 (by decide) (by omega) (fun h34 => ?_) (fun h34 => ?_)
      · refine q_aload_n (pc := 40) dX8_board_40 rfl ?_
        refine q_V0v (pc := 41) dX8_board_41 vX8_190 rfl rfl (Nat.le_of_ble_eq_true rfl) (Nat.le_of_ble_eq_true rfl) (m_keep hM hV) (fun σ3 hc3 => ?_)
        obtain ⟨hF3, hM3⟩ := hc3
        refine q_aload_n (pc := 44) dX8_board_44 rfl ?_
        refine q_getR (pc := 45) dX8_board_45 fX8_19 rfl rfl ?_
        refine q_bipush (pc := 48) dX8_board_48 (by decide +kernel) ?_
        refine q_iload_n (pc := 50) dX8_board_50 rfl ?_
        refine q_iadd (pc := 51) dX8_board_51 ?_
        refine q_dup2 (pc := 52) dX8_board_52 rfl rfl ?_
        refine q_iald (pc := 53) dX8_board_53 rfl (by omega) ?_
        refine q_iconst (pc := 54) dX8_board_54 ?_
        refine q_isub (pc := 55) dX8_board_55 ?_
        refine q_iast (pc := 56) dX8_board_56 rfl (by omega) ?_
        refine q_aload_n (pc := 57) dX8_board_57 rfl ?_
        refine q_getR (pc := 58) dX8_board_58 fX8_19 rfl rfl ?_
        refine q_bipush (pc := 61) dX8_board_61 (by decide +kernel) ?_
        refine q_iload_n (pc := 63) dX8_board_63 rfl ?_
        refine q_iadd (pc := 64) dX8_board_64 ?_
        refine q_iald (pc := 65) dX8_board_65 rfl (by omega) ?_
        refine q_ri (pc := 66) dX8_board_66 rfl ?_
        have es2 : σ3 86 (10 + i) = A.1 (10 + i) := hM3.1 (10 + i) (by omega) (by omega)
        have e : s_board A i = (A.1 (10 + i) - 1, u1 A.1 (10 + i) (A.1 (10 + i) - 1), kp A, A.2.2) := by
          unfold s_board
          rw [if_pos (by omega), if_pos (by omega), if_neg (by omega)]
        rw [e, es2]
        exact pM.go (fun j hj => by rw [up_ne (by omega), hF3.m (by decide) j hj, hF0 j hj]) (hM3.row (S := [86]) (Fr.up (by decide)) (by decide) (RwR.up hM3.1)) (by rw [up_same, if_pos rfl])
      · refine q_ldc (pc := 37) (n := -1000002) kX8_187 dX8_board_37 ?_
        refine q_ri (pc := 39) dX8_board_39 rfl ?_
        refine ⟨A, ?_, hF0, hM⟩
        first | unfold s_hours | unfold s_perform | unfold s_board | unfold s_amount | unfold s_jack
        repeat' (first | rw [if_neg (by omega)] | rw [if_pos (by omega)] | rw [if_pos (by assumption)] | rw [if_neg (by assumption)])
    · refine q_ldc (pc := 22) (n := -1000001) kX8_70 dX8_board_22 ?_
      refine q_ri (pc := 24) dX8_board_24 rfl ?_
      refine ⟨A, ?_, hF0, hM⟩
      first | unfold s_hours | unfold s_perform | unfold s_board | unfold s_amount | unfold s_jack
      repeat' (first | rw [if_neg (by omega)] | rw [if_pos (by omega)] | rw [if_pos (by assumption)] | rw [if_neg (by assumption)])
  · refine q_ldc (pc := 12) (n := -1000002) kX8_187 dX8_board_12 ?_
    refine q_ri (pc := 14) dX8_board_14 rfl ?_
    refine ⟨A, ?_, hF0, hM⟩
    first | unfold s_hours | unfold s_perform | unfold s_board | unfold s_amount | unfold s_jack
    repeat' (first | rw [if_neg (by omega)] | rw [if_pos (by omega)] | rw [if_pos (by assumption)] | rw [if_neg (by assumption)])
theorem m_amount {i n : Int} (hM : MR σ A) (hV : AV A) (hi : -2147483648 ≤ i ∧ i ≤ 2147483647) (hn : -2147483648 ≤ n ∧ n ≤ 2147483647) : qE G mX8_amount (d + 3) 0 [(0, vr 82), (1, vi i), (2, vi n)] [] σ (ri (pM σ (s_amount A i n))) := by
  have hR := hV.1
  have h5 := hR.de
  refine q_aload_n (pc := 0) dX8_amount_0 rfl ?_
  refine q_iconst (pc := 1) dX8_amount_1 ?_
  refine q_pI (pc := 2) 0 dX8_amount_2 wX8_50 rfl rfl rfl ?_
  have hM := hM.fld (i := 0) (v := 0) (by decide)
  have hF0 : ∀ j, j < 82 → up σ 82 0 0 j = σ j := fun j hj => up_ne (by omega)
  generalize up σ 82 0 0 = τ at hM hF0 ⊢
  refine q_aload_n (pc := 5) dX8_amount_5 rfl ?_
  refine q_iload_n (pc := 6) dX8_amount_6 rfl ?_
  refine q_V1i (pc := 7) dX8_amount_7 vX8_196 rfl rfl (Nat.le_of_ble_eq_true rfl) (Nat.le_of_ble_eq_true rfl) (t_X8_isDeed hM.1 h5 (by omega)) (fun r1 σ1 hc1 => ?_)
  obtain ⟨rfl, rfl⟩ := hc1
  refine q_ifeqb (pc := 10) (tgt := 25) dX8_amount_10 (by decide) (fun h10 => ?_) (fun h10 => ?_)
  · refine q_ldc (pc := 25) (n := -1000001) kX8_70 dX8_amount_25 ?_
    refine q_ri (pc := 27) dX8_amount_27 rfl ?_
    refine ⟨A, ?_, hF0, hM⟩
    first | unfold s_hours | unfold s_perform | unfold s_board | unfold s_amount | unfold s_jack
    repeat' (first | rw [if_neg (by omega)] | rw [if_pos (by omega)] | rw [if_pos (by assumption)] | rw [if_neg (by assumption)])
  · refine q_iload_n (pc := 13) dX8_amount_13 rfl ?_
    refine q_i2l (pc := 14) dX8_amount_14 (by omega) ?_
    refine q_lconst1 (pc := 15) dX8_amount_15 ?_
    refine q_ldc2 (pc := 16) (n := 20) kX8_208 dX8_amount_16 ?_
    refine q_S3i (pc := 19) dX8_amount_19 vX8_60 (Nat.le_of_ble_eq_true rfl) (Nat.le_of_ble_eq_true rfl) (t_X8_in (by omega) (by omega) (by omega)) (fun r2 σ2 hc2 => ?_)
    obtain ⟨rfl, rfl⟩ := hc2
    refine q_ifneb (pc := 22) (tgt := 28) dX8_amount_22 (by decide) (fun h22 => ?_) (fun h22 => ?_)
    · refine q_aload_n (pc := 28) dX8_amount_28 rfl ?_
      refine q_iload_n (pc := 29) dX8_amount_29 rfl ?_
      refine q_V1i (pc := 30) dX8_amount_30 vX8_199 rfl rfl (Nat.le_of_ble_eq_true rfl) (Nat.le_of_ble_eq_true rfl) (t_X8_isDone hM.1) (fun r3 σ3 hc3 => ?_)
      obtain ⟨rfl, rfl⟩ := hc3
      refine q_ifeqb (pc := 33) (tgt := 39) dX8_amount_33 (by decide) (fun h33 => ?_) (fun h33 => ?_)
      · refine q_aload_n (pc := 39) dX8_amount_39 rfl ?_
        refine q_V0v (pc := 40) dX8_amount_40 vX8_190 rfl rfl (Nat.le_of_ble_eq_true rfl) (Nat.le_of_ble_eq_true rfl) (m_keep hM hV) (fun σ4 hc4 => ?_)
        obtain ⟨hF4, hM4⟩ := hc4
        refine q_aload_n (pc := 43) dX8_amount_43 rfl ?_
        refine q_getR (pc := 44) dX8_amount_44 fX8_19 rfl rfl ?_
        refine q_iload_n (pc := 47) dX8_amount_47 rfl ?_
        refine q_iconst (pc := 48) dX8_amount_48 ?_
        refine q_S3i (pc := 49) dX8_amount_49 vX8_172 (Nat.le_of_ble_eq_true rfl) (Nat.le_of_ble_eq_true rfl) (t_X8_of sh86 hM4.1 (by omega) (by omega)) (fun r5 σ5 hc5 => ?_)
        obtain ⟨rfl, rfl⟩ := hc5
        refine q_istore_n (pc := 52) dX8_amount_52 (Nat.le_of_ble_eq_true rfl) ?_
        refine q_aload_n (pc := 53) dX8_amount_53 rfl ?_
        refine q_getR (pc := 54) dX8_amount_54 fX8_19 rfl rfl ?_
        refine q_bipush (pc := 57) dX8_amount_57 (by decide +kernel) ?_
        refine q_iconst (pc := 59) dX8_amount_59 ?_
        refine q_iload_n (pc := 60) dX8_amount_60 rfl ?_
        refine q_imul (pc := 61) dX8_amount_61 ?_
        refine q_iadd (pc := 62) dX8_amount_62 ?_
        refine q_iconst (pc := 63) dX8_amount_63 ?_
        refine q_iadd (pc := 64) dX8_amount_64 ?_
        refine q_iload_n (pc := 65) dX8_amount_65 rfl ?_
        refine q_iast (pc := 66) dX8_amount_66 rfl (by omega) ?_
        refine q_iload_n (pc := 67) dX8_amount_67 rfl ?_
        refine q_ri (pc := 68) dX8_amount_68 rfl ?_
        have e : s_amount A i n = (A.1 (15 + 3 * i), u1 A.1 (15 + 3 * i) n, kp A, A.2.2) := by
          unfold s_amount
          rw [if_pos (by omega), if_neg (by assumption)]
        rw [e, show 15 + 3 * i = 13 + 3 * i + 2 by omega]
        exact pM.go (fun j hj => by rw [up_ne (by omega), hF4.m (by decide) j hj, hF0 j hj]) (hM4.row (S := [86]) (Fr.up (by decide)) (by decide) (RwR.up hM4.1)) rfl
      · refine q_ldc (pc := 36) (n := -1000002) kX8_187 dX8_amount_36 ?_
        refine q_ri (pc := 38) dX8_amount_38 rfl ?_
        refine ⟨A, ?_, hF0, hM⟩
        first | unfold s_hours | unfold s_perform | unfold s_board | unfold s_amount | unfold s_jack
        repeat' (first | rw [if_neg (by omega)] | rw [if_pos (by omega)] | rw [if_pos (by assumption)] | rw [if_neg (by assumption)])
    · refine q_ldc (pc := 25) (n := -1000001) kX8_70 dX8_amount_25 ?_
      refine q_ri (pc := 27) dX8_amount_27 rfl ?_
      refine ⟨A, ?_, hF0, hM⟩
      first | unfold s_hours | unfold s_perform | unfold s_board | unfold s_amount | unfold s_jack
      repeat' (first | rw [if_neg (by omega)] | rw [if_pos (by omega)] | rw [if_pos (by assumption)] | rw [if_neg (by assumption)])
theorem m_jack {i n : Int} (hM : MR σ A) (hV : AV A) (hi : -2147483648 ≤ i ∧ i ≤ 2147483647) (hn : -2147483648 ≤ n ∧ n ≤ 2147483647) : qE G mX8_jack (d + 3) 0 [(0, vr 82), (1, vi i), (2, vi n)] [] σ (ri (pM σ (s_jack A i n))) := by
  have hR := hV.1
  have h01 := hR.f0
  refine q_aload_n (pc := 0) dX8_jack_0 rfl ?_
  refine q_iconst (pc := 1) dX8_jack_1 ?_
  refine q_pI (pc := 2) 0 dX8_jack_2 wX8_50 rfl rfl rfl ?_
  have hM := hM.fld (i := 0) (v := 0) (by decide)
  have hF0 : ∀ j, j < 82 → up σ 82 0 0 j = σ j := fun j hj => up_ne (by omega)
  generalize up σ 82 0 0 = τ at hM hF0 ⊢
  refine q_aload_n (pc := 5) dX8_jack_5 rfl ?_
  refine q_V0i (pc := 6) dX8_jack_6 vX8_184 rfl rfl (Nat.le_of_ble_eq_true rfl) (Nat.le_of_ble_eq_true rfl) (t_X8_isThere hM.1 h01) (fun r1 σ1 hc1 => ?_)
  obtain ⟨rfl, rfl⟩ := hc1
  refine q_ifneb (pc := 9) (tgt := 15) dX8_jack_9 (by decide) (fun h9 => ?_) (fun h9 => ?_)
  · refine q_iload_n (pc := 15) dX8_jack_15 rfl ?_
    refine q_S1i (pc := 16) dX8_jack_16 vX8_205 (Nat.le_of_ble_eq_true rfl) (Nat.le_of_ble_eq_true rfl) (t_X8_isFoot (by omega)) (fun r2 σ2 hc2 => ?_)
    obtain ⟨rfl, rfl⟩ := hc2
    refine q_ifeqb (pc := 19) (tgt := 34) dX8_jack_19 (by decide) (fun h19 => ?_) (fun h19 => ?_)
    · refine q_ldc (pc := 34) (n := -1000001) kX8_70 dX8_jack_34 ?_
      refine q_ri (pc := 36) dX8_jack_36 rfl ?_
      refine ⟨A, ?_, hF0, hM⟩
      first | unfold s_hours | unfold s_perform | unfold s_board | unfold s_amount | unfold s_jack
      repeat' (first | rw [if_neg (by omega)] | rw [if_pos (by omega)] | rw [if_pos (by assumption)] | rw [if_neg (by assumption)])
    · refine q_iload_n (pc := 22) dX8_jack_22 rfl ?_
      refine q_i2l (pc := 23) dX8_jack_23 (by omega) ?_
      refine q_lconst1 (pc := 24) dX8_jack_24 ?_
      refine q_ldc2 (pc := 25) (n := 20) kX8_208 dX8_jack_25 ?_
      refine q_S3i (pc := 28) dX8_jack_28 vX8_60 (Nat.le_of_ble_eq_true rfl) (Nat.le_of_ble_eq_true rfl) (t_X8_in (by omega) (by omega) (by omega)) (fun r3 σ3 hc3 => ?_)
      obtain ⟨rfl, rfl⟩ := hc3
      refine q_ifneb (pc := 31) (tgt := 37) dX8_jack_31 (by decide) (fun h31 => ?_) (fun h31 => ?_)
      · refine q_aload_n (pc := 37) dX8_jack_37 rfl ?_
        refine q_V0v (pc := 38) dX8_jack_38 vX8_190 rfl rfl (Nat.le_of_ble_eq_true rfl) (Nat.le_of_ble_eq_true rfl) (m_keep hM hV) (fun σ4 hc4 => ?_)
        obtain ⟨hF4, hM4⟩ := hc4
        refine q_aload_n (pc := 41) dX8_jack_41 rfl ?_
        refine q_getR (pc := 42) dX8_jack_42 fX8_19 rfl rfl ?_
        refine q_iload_n (pc := 45) dX8_jack_45 rfl ?_
        refine q_iload_n (pc := 46) dX8_jack_46 rfl ?_
        refine q_S3v (pc := 47) dX8_jack_47 vX8_168 (Nat.le_of_ble_eq_true rfl) (Nat.le_of_ble_eq_true rfl) (t_X8_lifts sh86 hM4.1 hR.1 (by omega) (by omega) (by omega)) (fun σ5 hc5 => ?_)
        obtain ⟨hF5, hf5, hO5⟩ := hc5
        refine q_aload_n (pc := 50) dX8_jack_50 rfl ?_
        refine q_getR (pc := 51) dX8_jack_51 fX8_19 rfl rfl ?_
        refine q_bipush (pc := 54) dX8_jack_54 (by decide +kernel) ?_
        refine q_iload_n (pc := 56) dX8_jack_56 rfl ?_
        refine q_iadd (pc := 57) dX8_jack_57 ?_
        refine q_iald (pc := 58) dX8_jack_58 rfl (by omega) ?_
        refine q_ri (pc := 59) dX8_jack_59 rfl ?_
        have e : s_jack A i n = (mLift A.1 i n (7 + i), mLift A.1 i n, kp A, A.2.2) := by
          unfold s_jack
          rw [if_pos (by omega), if_pos (by omega)]
        rw [e]
        exact pM.go (fun j hj => by rw [hF5.m (by decide) j hj, hF4.m (by decide) j hj, hF0 j hj]) (hM4.row hF5 (by decide) hf5) (hf5 (7 + i) (by omega) (by omega)).symm
      · refine q_ldc (pc := 34) (n := -1000001) kX8_70 dX8_jack_34 ?_
        refine q_ri (pc := 36) dX8_jack_36 rfl ?_
        refine ⟨A, ?_, hF0, hM⟩
        first | unfold s_hours | unfold s_perform | unfold s_board | unfold s_amount | unfold s_jack
        repeat' (first | rw [if_neg (by omega)] | rw [if_pos (by omega)] | rw [if_pos (by assumption)] | rw [if_neg (by assumption)])
  · refine q_ldc (pc := 12) (n := -1000002) kX8_187 dX8_jack_12 ?_
    refine q_ri (pc := 14) dX8_jack_14 rfl ?_
    refine ⟨A, ?_, hF0, hM⟩
    first | unfold s_hours | unfold s_perform | unfold s_board | unfold s_amount | unfold s_jack
    repeat' (first | rw [if_neg (by omega)] | rw [if_pos (by omega)] | rw [if_pos (by assumption)] | rw [if_neg (by assumption)])
theorem m_undo_l {g : Int → Int} {as : List (Int → Int)} {Q : Option qV → qM → Prop} (hl : as.length ≤ 23) (h9 : σ 82 9 = as.length) (hg : ∀ j, 0 ≤ j → j < 34 → σ 89 (34 * as.length + j) = g j) (hx : ∀ σ1 x, Fr σ σ1 [86] → RwR σ1 86 g → qE G mX8_undo d 59 [(1, vi x), (0, vr 82)] [] σ1 Q) : ∀ (m k : Nat) (σ' : qM), m + k = 34 → Fr σ σ' [86] → (∀ j, 0 ≤ j → j < (k : Int) → σ' 86 j = g j) → qE G mX8_undo d 27 [(1, vi k), (0, vr 82)] [] σ' Q := by
  intro m
  induction m with
  | zero =>
    intro k σ' hk hF h
    refine q_iload_n (pc := 27) dX8_undo_27 rfl ?_
    refine q_bipush (pc := 28) dX8_undo_28 (by decide +kernel) ?_
    refine q_icmpge (pc := 30) (tgt := 59) dX8_undo_30 (by decide) (by omega) (by omega) (fun h30 => ?_) (fun h => absurd h (by omega))
    exact hx σ' k hF (fun j h0 h1 => h j h0 (by omega))
  | succ m ih =>
    intro k σ' hk hF h
    have e9 : σ' 82 9 = as.length := by rw [hF 82 (by simp)]; exact h9
    have e6 : σ' 89 = σ 89 := hF 89 (by simp)
    refine q_iload_n (pc := 27) dX8_undo_27 rfl ?_
    refine q_bipush (pc := 28) dX8_undo_28 (by decide +kernel) ?_
    refine q_icmpge (pc := 30) (tgt := 59) dX8_undo_30 (by decide) (by omega) (by omega) (fun h => absurd h (by omega)) (fun h30 => ?_)
    refine q_aload_n (pc := 33) dX8_undo_33 rfl ?_
    refine q_getR (pc := 34) dX8_undo_34 fX8_19 rfl rfl ?_
    refine q_iload_n (pc := 37) dX8_undo_37 rfl ?_
    refine q_aload_n (pc := 38) dX8_undo_38 rfl ?_
    refine q_getR (pc := 39) dX8_undo_39 fX8_28 rfl rfl ?_
    refine q_bipush (pc := 42) dX8_undo_42 (by decide +kernel) ?_
    refine q_aload_n (pc := 44) dX8_undo_44 rfl ?_
    refine q_gI (pc := 45) 9 dX8_undo_45 fX8_152 rfl rfl rfl ?_
    refine q_imul (pc := 48) dX8_undo_48 ?_
    refine q_iload_n (pc := 49) dX8_undo_49 rfl ?_
    refine q_iadd (pc := 50) dX8_undo_50 ?_
    refine q_iald (pc := 51) dX8_undo_51 rfl (by omega) ?_
    refine q_iast (pc := 52) dX8_undo_52 rfl (by omega) ?_
    refine q_iinc (pc := 53) dX8_undo_53 rfl (Nat.le_of_ble_eq_true rfl) ?_
    refine q_goto (pc := 56) (tgt := 27) dX8_undo_56 (by decide) ?_
    have q := ih (k + 1) (up σ' 86 k (σ' 89 (34 * σ' 82 9 + k))) (by omega) (hF.tt (Fr.up (by simp))) (fun j h0 h1 => ?_)
    · exact q_locs _ [0, 1] rfl q
    · rw [up_same, e9, e6]
      by_cases c : j = k
      · rw [if_pos c, c]; exact hg k (by omega) (by omega)
      · rw [if_neg c]; exact h j h0 (by omega)
theorem m_undo (hM : MR σ A) (hV : AV A) : qE G mX8_undo (d + 3) 0 [(0, vr 82)] [] σ (ri (pM σ (s_undo A))) := by
  obtain ⟨f, as, B⟩ := A
  cases as with
  | nil =>
    refine q_aload_n (pc := 0) dX8_undo_0 rfl ?_
    refine q_iconst (pc := 1) dX8_undo_1 ?_
    refine q_pI (pc := 2) 0 dX8_undo_2 wX8_50 rfl rfl rfl ?_
    have hM := hM.fld (i := 0) (v := 0) (by decide)
    have hF0 : ∀ j, j < 82 → up σ 82 0 0 j = σ j := fun j hj => up_ne (by omega)
    generalize up σ 82 0 0 = τ at hM hF0 ⊢
    have e9 : τ 82 9 = 0 := hM.2.1.1
    refine q_aload_n (pc := 5) dX8_undo_5 rfl ?_
    refine q_gI (pc := 6) 9 dX8_undo_6 fX8_152 rfl rfl rfl ?_
    refine q_ifne (pc := 9) (tgt := 15) dX8_undo_9 (by decide) (by omega) (fun h => absurd h (by omega)) (fun h9 => ?_)
    refine q_ldc (pc := 12) (n := -1000002) kX8_187 dX8_undo_12 ?_
    refine q_ri (pc := 14) dX8_undo_14 rfl ?_
    exact ⟨_, rfl, hF0, hM⟩
  | cons g as =>
    have hl : (g :: as).length ≤ 24 := hV.2.1.1
    rw [List.length_cons] at hl
    refine q_aload_n (pc := 0) dX8_undo_0 rfl ?_
    refine q_iconst (pc := 1) dX8_undo_1 ?_
    refine q_pI (pc := 2) 0 dX8_undo_2 wX8_50 rfl rfl rfl ?_
    have hM := hM.fld (i := 0) (v := 0) (by decide)
    have hF0 : ∀ j, j < 82 → up σ 82 0 0 j = σ j := fun j hj => up_ne (by omega)
    generalize up σ 82 0 0 = τ at hM hF0 ⊢
    have hA := hM.2.1
    have e9 : τ 82 9 = (g :: as).length := hM.2.1.1
    rw [List.length_cons] at e9
    refine q_aload_n (pc := 5) dX8_undo_5 rfl ?_
    refine q_gI (pc := 6) 9 dX8_undo_6 fX8_152 rfl rfl rfl ?_
    refine q_ifne (pc := 9) (tgt := 15) dX8_undo_9 (by decide) (by omega) (fun h9 => ?_) (fun h => absurd h (by omega))
    refine q_aload_n (pc := 15) dX8_undo_15 rfl ?_
    refine q_dup (pc := 16) dX8_undo_16 rfl ?_
    refine q_gI (pc := 17) 9 dX8_undo_17 fX8_152 rfl rfl rfl ?_
    refine q_iconst (pc := 20) dX8_undo_20 ?_
    refine q_isub (pc := 21) dX8_undo_21 ?_
    refine q_pI (pc := 22) 9 dX8_undo_22 wX8_152 rfl rfl rfl ?_
    refine q_iconst (pc := 25) dX8_undo_25 ?_
    refine q_istore_n (pc := 26) dX8_undo_26 (Nat.le_of_ble_eq_true rfl) ?_
    refine m_undo_l (σ := up τ 82 9 (τ 82 9 - 1)) (as := as) (g := g) (by omega) (by rw [up_same, if_pos rfl]; omega) (fun j h0 h1 => ?_) (fun σ1 x hF1 h1 => ?_) 34 0 _ rfl Fr.rf (fun j h0 h1 => by omega)
    · rw [up_ne (by omega)]
      have q := hA.2 0 g rfl j h0 h1
      rw [← q]
      congr 1
      show _ = 34 * (((g :: as).length : Int) - 1 - 0) + j
      rw [List.length_cons]
      omega
    · have e82 : σ1 82 = up τ 82 9 (τ 82 9 - 1) 82 := hF1 82 (by simp)
      have e9' : σ1 82 9 = as.length := by rw [e82, up_same, if_pos rfl]; omega
      refine q_aload_n (pc := 59) dX8_undo_59 rfl ?_
      refine q_gI (pc := 60) 9 dX8_undo_60 fX8_152 rfl rfl rfl ?_
      refine q_ri (pc := 63) dX8_undo_63 rfl ?_
      refine pM.go (v := as.length) (A' := (g, as, B)) (fun j hj => by rw [hF1.m (by decide) j hj, up_ne (by omega), hF0 j hj]) ?_ e9'.symm
      have hF : Fr τ (up τ 82 9 (τ 82 9 - 1)) [82, 89] := Fr.up (by simp)
      refine MR.row (A := (f, as, B)) (hM.acts hF (fun i hi => by rw [up_same, if_neg hi]) ?_) hF1 (by decide) h1
      refine ⟨by rw [up_same, if_pos rfl]; omega, fun i k hk j h0 h1 => ?_⟩
      have q := hA.2 (i + 1) k (by simpa using hk) j h0 h1
      rw [up_ne (by omega), ← q]
      congr 1
      show _ = 34 * (((g :: as).length : Int) - 1 - ((i + 1 : Nat) : Int)) + j
      rw [List.length_cons]
      omega
end T8
