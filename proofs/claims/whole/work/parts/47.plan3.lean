/-! ===== the reference: plan ===== -/
section T8
variable {G : qGl} {d : Nat} {σ : qM} {A : qA} {f g : Int → Int}
def SR (σ : qM) (δ : Nat) (g : Int → Int) : Prop := ∀ j, 0 ≤ j → j < 34 → σ 91 (34 * δ + j) = g j
def PF (σ σ1 : qM) (δ : Nat) : Prop := Fr σ σ1 [88, 91, 92] ∧ (∀ x, x < 34 * ((δ : Int) + 1) → σ1 91 x = σ 91 x) ∧ ∀ k : Int, k < δ → σ1 92 k = σ 92 k
theorem PF.rf {δ : Nat} : PF σ σ δ := ⟨Fr.rf, fun _ _ => rfl, fun _ _ => rfl⟩
theorem PF.tt {σ1 σ2 : qM} {δ : Nat} (h1 : PF σ σ1 δ) (h2 : PF σ1 σ2 δ) : PF σ σ2 δ := ⟨h1.1.tt h2.1, fun x hx => by rw [h2.2.1 x hx, h1.2.1 x hx], fun k hk => by rw [h2.2.2 k hk, h1.2.2 k hk]⟩
theorem PF.dn {σ1 : qM} {δ : Nat} (h : PF σ σ1 (δ + 1)) : PF σ σ1 δ := ⟨h.1, fun x hx => h.2.1 x (by push_cast; omega), fun k hk => h.2.2 k (by push_cast; omega)⟩
theorem PF.f88 {σ1 : qM} {δ : Nat} (h : Fr σ σ1 [88]) : PF σ σ1 δ := ⟨h.wk (by simp), fun x _ => by rw [h 91 (by simp)], fun k _ => by rw [h 92 (by simp)]⟩
theorem PF.sr {σ1 : qM} {δ : Nat} (h : PF σ σ1 δ) (hs : SR σ δ g) : SR σ1 δ g := fun j a b => by rw [h.2.1 _ (by omega)]; exact hs j a b
theorem m_lay_l {δ : Nat} (hd : δ ≤ 7) (hs : SR σ δ g) : ∀ (m t : Nat) (σ' : qM), m + t = 34 → Fr σ σ' [88] → (∀ j, 0 ≤ j → j < (t : Int) → σ' 88 j = g j) → qE G mX8_layStep d 2 [(2, vi t), (0, vr 82), (1, vi δ)] [] σ' (rv fun σ1 => Fr σ σ1 [88] ∧ RwR σ1 88 g) := by
  intro m
  induction m with
  | zero =>
    intro t σ' ht hF h
    refine q_iload_n (pc := 2) dX8_layStep_2 rfl ?_
    refine q_bipush (pc := 3) dX8_layStep_3 (by decide +kernel) ?_
    refine q_icmpge (pc := 5) (tgt := 31) dX8_layStep_5 (by decide) (by omega) (by omega) (fun h5 => ?_) (fun h => absurd h (by omega))
    refine q_rv (pc := 31) dX8_layStep_31 rfl ?_
    exact ⟨hF, fun j a b => h j a (by omega)⟩
  | succ m ih =>
    intro t σ' ht hF h
    have e6 : σ' 91 (34 * δ + t) = g t := by rw [hF 91 (by simp)]; exact hs t (by omega) (by omega)
    refine q_iload_n (pc := 2) dX8_layStep_2 rfl ?_
    refine q_bipush (pc := 3) dX8_layStep_3 (by decide +kernel) ?_
    refine q_icmpge (pc := 5) (tgt := 31) dX8_layStep_5 (by decide) (by omega) (by omega) (fun h => absurd h (by omega)) (fun h5 => ?_)
    refine q_aload_n (pc := 8) dX8_layStep_8 rfl ?_
    refine q_getR (pc := 9) dX8_layStep_9 fX8_25 rfl rfl ?_
    refine q_iload_n (pc := 12) dX8_layStep_12 rfl ?_
    refine q_aload_n (pc := 13) dX8_layStep_13 rfl ?_
    refine q_getR (pc := 14) dX8_layStep_14 fX8_34 rfl rfl ?_
    refine q_bipush (pc := 17) dX8_layStep_17 (by decide +kernel) ?_
    refine q_iload_n (pc := 19) dX8_layStep_19 rfl ?_
    refine q_imul (pc := 20) dX8_layStep_20 ?_
    refine q_iload_n (pc := 21) dX8_layStep_21 rfl ?_
    refine q_iadd (pc := 22) dX8_layStep_22 ?_
    refine q_iald (pc := 23) dX8_layStep_23 rfl (by omega) ?_
    refine q_iast (pc := 24) dX8_layStep_24 rfl (by omega) ?_
    refine q_iinc (pc := 25) dX8_layStep_25 rfl (Nat.le_of_ble_eq_true rfl) ?_
    refine q_goto (pc := 28) (tgt := 2) dX8_layStep_28 (by decide) ?_
    have q := ih (t + 1) (up σ' 88 t (σ' 91 (34 * δ + t))) (by omega) (hF.tt (Fr.up (by simp))) (fun j a b => ?_)
    · exact q_locs _ [0, 1, 2] rfl q
    · rw [up_same, e6]
      by_cases c : j = t
      · rw [if_pos c, c]
      · rw [if_neg c]
        exact h j a (by omega)
theorem t_X8_layStep {δ : Nat} (hd : δ ≤ 7) (hs : SR σ δ g) : qE G mX8_layStep d 0 [(0, vr 82), (1, vi δ)] [] σ (rv fun σ1 => Fr σ σ1 [88] ∧ RwR σ1 88 g) := by
  refine q_iconst (pc := 0) dX8_layStep_0 ?_
  refine q_istore_n (pc := 1) dX8_layStep_1 (Nat.le_of_ble_eq_true rfl) ?_
  exact m_lay_l hd hs 34 0 σ rfl Fr.rf (fun j a b => by omega)
theorem t_X8_isStepDone {δ : Nat} {i : Int} (hd : δ ≤ 7) (hs : SR σ δ g) : qE G mX8_isStepDone d 0 [(0, vr 82), (1, vi δ), (2, vi i)] [] σ (ri fun r σ1 => bi (mDone g i) = r ∧ σ = σ1) := by
  have e6 : σ 91 (34 * δ + 6) = g 6 := hs 6 (by omega) (by omega)
  have hq := qand_in (qshr (σ 91 (34 * δ + 6)) i) 1
  refine q_aload_n (pc := 0) dX8_isStepDone_0 rfl ?_
  refine q_getR (pc := 1) dX8_isStepDone_1 fX8_34 rfl rfl ?_
  refine q_bipush (pc := 4) dX8_isStepDone_4 (by decide +kernel) ?_
  refine q_iload_n (pc := 6) dX8_isStepDone_6 rfl ?_
  refine q_imul (pc := 7) dX8_isStepDone_7 ?_
  refine q_bipush (pc := 8) dX8_isStepDone_8 (by decide +kernel) ?_
  refine q_iadd (pc := 10) dX8_isStepDone_10 ?_
  refine q_iald (pc := 11) dX8_isStepDone_11 rfl (by omega) ?_
  refine q_iload_n (pc := 12) dX8_isStepDone_12 rfl ?_
  refine q_ishr (pc := 13) dX8_isStepDone_13 ?_
  refine q_iconst (pc := 14) dX8_isStepDone_14 ?_
  refine q_iand (pc := 15) dX8_isStepDone_15 ?_
  refine q_iconst (pc := 16) dX8_isStepDone_16 ?_
  refine q_icmpne (pc := 17) (tgt := 24) dX8_isStepDone_17 (by decide) (by omega) (by omega) (fun h17 => ?_) (fun h17 => ?_)
  · refine q_iconst (pc := 24) dX8_isStepDone_24 ?_
    refine q_rz (pc := 25) dX8_isStepDone_25 rfl (by first | exact bi_01 _ | omega) ?_
    rw [e6] at h17
    refine ⟨?_, rfl⟩
    first
    | exact bi_t (by assumption)
    | exact bi_f (by assumption)
  · refine q_iconst (pc := 20) dX8_isStepDone_20 ?_
    refine q_goto (pc := 21) (tgt := 25) dX8_isStepDone_21 (by decide) ?_
    refine q_rz (pc := 25) dX8_isStepDone_25 rfl (by first | exact bi_01 _ | omega) ?_
    rw [e6] at h17
    refine ⟨?_, rfl⟩
    first
    | exact bi_t (by assumption)
    | exact bi_f (by assumption)
theorem m_push_l {δ : Nat} {L n i : Int} {Q : Option qV → qM → Prop} (hd : δ ≤ 7) (hT : RwR σ 88 g) (kk : ∀ σ1 x, Fr σ σ1 [91] → (∀ y, y < 34 * (δ : Int) → σ1 91 y = σ 91 y) → SR σ1 δ g → qE G mX8_planned d 168 [(5, vi x), (3, vi δ), (4, vi i), (0, vr 82), (1, vi L), (2, vi n)] [] σ1 Q) : ∀ (m t : Nat) (σ' : qM), m + t = 34 → Fr σ σ' [91] → (∀ y, y < 34 * (δ : Int) → σ' 91 y = σ 91 y) → (∀ j, 0 ≤ j → j < (t : Int) → σ' 91 (34 * δ + j) = g j) → qE G mX8_planned d 136 [(5, vi t), (3, vi δ), (4, vi i), (0, vr 82), (1, vi L), (2, vi n)] [] σ' Q := by
  intro m
  induction m with
  | zero =>
    intro t σ' ht hF h0 h
    refine q_iload (pc := 136) dX8_planned_136 rfl ?_
    refine q_bipush (pc := 138) dX8_planned_138 (by decide +kernel) ?_
    refine q_icmpge (pc := 140) (tgt := 168) dX8_planned_140 (by decide) (by omega) (by omega) (fun h140 => ?_) (fun h => absurd h (by omega))
    exact kk σ' t hF h0 (fun j a b => h j a (by omega))
  | succ m ih =>
    intro t σ' ht hF h0 h
    have e6 : σ' 88 t = g t := by rw [hF 88 (by simp)]; exact hT t (by omega) (by omega)
    refine q_iload (pc := 136) dX8_planned_136 rfl ?_
    refine q_bipush (pc := 138) dX8_planned_138 (by decide +kernel) ?_
    refine q_icmpge (pc := 140) (tgt := 168) dX8_planned_140 (by decide) (by omega) (by omega) (fun h => absurd h (by omega)) (fun h140 => ?_)
    refine q_aload_n (pc := 143) dX8_planned_143 rfl ?_
    refine q_getR (pc := 144) dX8_planned_144 fX8_34 rfl rfl ?_
    refine q_bipush (pc := 147) dX8_planned_147 (by decide +kernel) ?_
    refine q_iload_n (pc := 149) dX8_planned_149 rfl ?_
    refine q_imul (pc := 150) dX8_planned_150 ?_
    refine q_iload (pc := 151) dX8_planned_151 rfl ?_
    refine q_iadd (pc := 153) dX8_planned_153 ?_
    refine q_aload_n (pc := 154) dX8_planned_154 rfl ?_
    refine q_getR (pc := 155) dX8_planned_155 fX8_25 rfl rfl ?_
    refine q_iload (pc := 158) dX8_planned_158 rfl ?_
    refine q_iald (pc := 160) dX8_planned_160 rfl (by omega) ?_
    refine q_iast (pc := 161) dX8_planned_161 rfl (by omega) ?_
    refine q_iinc (pc := 162) dX8_planned_162 rfl (Nat.le_of_ble_eq_true rfl) ?_
    refine q_goto (pc := 165) (tgt := 136) dX8_planned_165 (by decide) ?_
    have q := ih (t + 1) (up σ' 91 (34 * δ + t) (σ' 88 t)) (by omega) (hF.tt (Fr.up (by simp))) (fun y hy => by rw [up_same, if_neg (by omega)]; exact h0 y hy) (fun j a b => ?_)
    · exact q_locs _ [0, 1, 2, 3, 4, 5] rfl q
    · rw [up_same, e6]
      by_cases c : j = t
      · rw [if_pos (by omega), c]
      · rw [if_neg (by omega)]
        exact h j a (by omega)
theorem m_find {n : Int} (hR : Row f) (h1 : f 0 = 1) (hn : 0 ≤ n ∧ n ≤ 24) {L : Nat} (hL : L ≤ 7) {P : Int → qM → Prop} : ∀ (ℓ δ : Nat), ℓ + δ + 1 = L → ∀ (m i : Nat) (g : Int → Int) (σ : qM), m + i = (f 5).toNat → gR f g → RwR σ 86 f → SR σ δ g → σ 92 δ = (i : Int) - 1 →
    (∀ l σ1, scan (fun k => mF n.toNat (f 5).toNat ℓ (mDo g k)) (fun k => ¬ mDone g k) m i = some l → PF σ σ1 δ → (∀ j : Nat, j < ℓ + 1 → σ1 92 (δ + j) = l.getD j 0) → P 1 σ1) →
    (scan (fun k => mF n.toNat (f 5).toNat ℓ (mDo g k)) (fun k => ¬ mDone g k) m i = none → ∀ σ1, PF σ σ1 δ → qE G mX8_planned (d + 4) 60 [(3, vi ((δ : Int) - 1)), (0, vr 82), (1, vi L), (2, vi n)] [] σ1 (ri P)) →
    qE G mX8_planned (d + 4) 60 [(3, vi δ), (0, vr 82), (1, vi L), (2, vi n)] [] σ (ri P) := by
  have h5 := hR.de
  have hl := hR.law h1
  have h4 := hR.2.1
  intro ℓ
  induction ℓ with
  | zero =>
    intro δ hd m
    induction m with
    | zero =>
      intro i g σ hm hg hf hs ht k1 k0
      have e5 := hf 5 (by omega) (by omega)
      refine q_iload_n (pc := 60) dX8_planned_60 rfl ?_
      refine q_iflt (pc := 61) (tgt := 201) dX8_planned_61 (by decide) (by omega) (fun h => absurd h (by omega)) (fun h61 => ?_)
      refine q_aload_n (pc := 64) dX8_planned_64 rfl ?_
      refine q_getR (pc := 65) dX8_planned_65 fX8_37 rfl rfl ?_
      refine q_iload_n (pc := 68) dX8_planned_68 rfl ?_
      refine q_dup2 (pc := 69) dX8_planned_69 rfl rfl ?_
      refine q_iald (pc := 70) dX8_planned_70 rfl (by omega) ?_
      refine q_iconst (pc := 71) dX8_planned_71 ?_
      refine q_iadd (pc := 72) dX8_planned_72 ?_
      refine q_iast (pc := 73) dX8_planned_73 rfl (by omega) ?_
      refine q_aload_n (pc := 74) dX8_planned_74 rfl ?_
      refine q_getR (pc := 75) dX8_planned_75 fX8_37 rfl rfl ?_
      refine q_iload_n (pc := 78) dX8_planned_78 rfl ?_
      refine q_iald (pc := 79) dX8_planned_79 rfl (by omega) ?_
      have et : up σ 92 δ (σ 92 δ + 1) 92 δ = (i : Int) := by rw [up_same, if_pos rfl]; omega
      rw [et]
      have e5' : up σ 92 δ (σ 92 δ + 1) 86 5 = f 5 := by rw [up_ne (by omega)]; exact e5
      refine q_istore (pc := 80) dX8_planned_80 (Nat.le_of_ble_eq_true rfl) ?_
      refine q_iload (pc := 82) dX8_planned_82 rfl ?_
      refine q_aload_n (pc := 84) dX8_planned_84 rfl ?_
      refine q_getR (pc := 85) dX8_planned_85 fX8_19 rfl rfl ?_
      refine q_iconst (pc := 88) dX8_planned_88 ?_
      refine q_iald (pc := 89) dX8_planned_89 rfl (by omega) ?_
      refine q_icmplt (pc := 90) (tgt := 99) dX8_planned_90 (by decide) (by omega) (by omega) (fun h => absurd h (by omega)) (fun h90 => ?_)
      refine q_iinc (pc := 93) dX8_planned_93 rfl (Nat.le_of_ble_eq_true rfl) ?_
      refine q_goto (pc := 96) (tgt := 198) dX8_planned_96 (by decide) ?_
      refine q_goto (pc := 198) (tgt := 60) dX8_planned_198 (by decide) ?_
      have q := k0 rfl (up σ 92 δ (σ 92 δ + 1)) ⟨Fr.up (by simp), fun x _ => by rw [up_ne (by omega)], fun k hk => by rw [up_same, if_neg (by omega)]⟩
      rw [show (δ : Int) + -1 = δ - 1 by omega]
      exact q_locs _ [0, 2, 3, 4] rfl q
    | succ m ihm =>
      intro i g σ hm hg hf hs ht k1 k0
      have e5 := hf 5 (by omega) (by omega)
      have hi : 0 ≤ (i : Int) ∧ (i : Int) < f 5 := by omega
      have g5 := hg.2 5 (by omega)
      have hgx := hg.go hi
      have hO := hgx.1.1
      have l1 := hgx.2 1 (by omega)
      have l2 := hgx.2 2 (by omega)
      have l3 := hgx.2 3 (by omega)
      have l4 := hgx.2 4 (by omega)
      have m1 := mHours_o (mDo g i) (j := 1) (by omega) n.toNat
      have m2 := mHours_o (mDo g i) (j := 2) (by omega) n.toNat
      have hF0 : PF σ (up σ 92 δ (σ 92 δ + 1)) δ := ⟨Fr.up (by simp), fun x _ => by rw [up_ne (by omega)], fun k hk => by rw [up_same, if_neg (by omega)]⟩
      have et : up σ 92 δ (σ 92 δ + 1) 92 δ = (i : Int) := by rw [up_same, if_pos rfl]; omega
      have e5' : up σ 92 δ (σ 92 δ + 1) 86 5 = f 5 := by rw [up_ne (by omega)]; exact e5
      have hs' := hF0.sr hs
      have hf' : RwR (up σ 92 δ (σ 92 δ + 1)) 86 f := hf.fr hF0.1 (by simp)
      generalize hτ : up σ 92 δ (σ 92 δ + 1) = τ at *
      have skip : ∀ o, scan (fun k => mF n.toNat (f 5).toNat 0 (mDo g k)) (fun k => ¬ mDone g k) m (i + 1) = o → (mDone g i ∨ mF n.toNat (f 5).toNat 0 (mDo g i) = none) → scan (fun k => mF n.toNat (f 5).toNat 0 (mDo g k)) (fun k => ¬ mDone g k) (m + 1) i = o := by
        intro o ho hz
        rw [← ho]
        show (if _ then _ else _) = _
        by_cases c : mDone g i
        · rw [if_neg (fun z => z c)]
        · rw [if_pos c]
          simp only [hz.resolve_left c]
      have next : ∀ τ', PF τ τ' δ → τ' 92 δ = (i : Int) → (mDone g i ∨ mF n.toNat (f 5).toNat 0 (mDo g i) = none) → qE G mX8_planned (d + 4) 60 [(3, vi δ), (0, vr 82), (1, vi L), (2, vi n)] [] τ' (ri P) := by
        intro τ' hF' ht' hz
        refine ihm (i + 1) g τ' (by omega) hg (hf'.fr hF'.1 (by simp)) (hF'.sr hs') (by rw [ht']; omega) (fun l σ1 hl hF1 hj => k1 l σ1 (skip _ hl hz) ((hF0.tt hF').tt hF1) hj) (fun hl σ1 hF1 => k0 (skip _ hl hz) σ1 ((hF0.tt hF').tt hF1))
      refine q_iload_n (pc := 60) dX8_planned_60 rfl ?_
      refine q_iflt (pc := 61) (tgt := 201) dX8_planned_61 (by decide) (by omega) (fun h => absurd h (by omega)) (fun h61 => ?_)
      refine q_aload_n (pc := 64) dX8_planned_64 rfl ?_
      refine q_getR (pc := 65) dX8_planned_65 fX8_37 rfl rfl ?_
      refine q_iload_n (pc := 68) dX8_planned_68 rfl ?_
      refine q_dup2 (pc := 69) dX8_planned_69 rfl rfl ?_
      refine q_iald (pc := 70) dX8_planned_70 rfl (by omega) ?_
      refine q_iconst (pc := 71) dX8_planned_71 ?_
      refine q_iadd (pc := 72) dX8_planned_72 ?_
      refine q_iast (pc := 73) dX8_planned_73 rfl (by omega) ?_
      rw [hτ]
      refine q_aload_n (pc := 74) dX8_planned_74 rfl ?_
      refine q_getR (pc := 75) dX8_planned_75 fX8_37 rfl rfl ?_
      refine q_iload_n (pc := 78) dX8_planned_78 rfl ?_
      refine q_iald (pc := 79) dX8_planned_79 rfl (by omega) ?_
      rw [et]
      refine q_istore (pc := 80) dX8_planned_80 (Nat.le_of_ble_eq_true rfl) ?_
      refine q_iload (pc := 82) dX8_planned_82 rfl ?_
      refine q_aload_n (pc := 84) dX8_planned_84 rfl ?_
      refine q_getR (pc := 85) dX8_planned_85 fX8_19 rfl rfl ?_
      refine q_iconst (pc := 88) dX8_planned_88 ?_
      refine q_iald (pc := 89) dX8_planned_89 rfl (by omega) ?_
      refine q_icmplt (pc := 90) (tgt := 99) dX8_planned_90 (by decide) (by omega) (by omega) (fun h90 => ?_) (fun h => absurd h (by omega))
      refine q_aload_n (pc := 99) dX8_planned_99 rfl ?_
      refine q_iload_n (pc := 100) dX8_planned_100 rfl ?_
      refine q_iload (pc := 101) dX8_planned_101 rfl ?_
      refine q_V2i (pc := 103) dX8_planned_103 vX8_232 rfl rfl (Nat.le_of_ble_eq_true rfl) (Nat.le_of_ble_eq_true rfl) (t_X8_isStepDone (by omega) hs') (fun r1 σ1 hc1 => ?_)
      obtain ⟨rfl, rfl⟩ := hc1
      refine q_ifneb (pc := 106) (tgt := 198) dX8_planned_106 (by decide) (fun h106 => ?_) (fun h106 => ?_)
      · refine q_goto (pc := 198) (tgt := 60) dX8_planned_198 (by decide) ?_
        first
        | exact q_locs _ [1, 2, 3, 4] rfl (next τ PF.rf et (Or.inl (by assumption)))
        | exact q_locs _ [1, 2, 3, 4] rfl (next σ0 (PF.f88 hFx) (by rw [hFx 92 (by simp)]; exact et) (Or.inr (if_neg (by assumption))))
      · refine q_aload_n (pc := 109) dX8_planned_109 rfl ?_
        refine q_iload_n (pc := 110) dX8_planned_110 rfl ?_
        refine q_V1v (pc := 111) dX8_planned_111 vX8_229 rfl rfl (Nat.le_of_ble_eq_true rfl) (Nat.le_of_ble_eq_true rfl) (t_X8_layStep (by omega) hs') (fun σ2 hc2 => ?_)
        obtain ⟨hF2, hT2⟩ := hc2
        refine q_aload_n (pc := 114) dX8_planned_114 rfl ?_
        refine q_getR (pc := 115) dX8_planned_115 fX8_25 rfl rfl ?_
        refine q_iload (pc := 118) dX8_planned_118 rfl ?_
        refine q_S2v (pc := 120) dX8_planned_120 vX8_202 (Nat.le_of_ble_eq_true rfl) (Nat.le_of_ble_eq_true rfl) (t_X8_does sh88 hT2 hg.1 (by omega)) (fun σ3 hc3 => ?_)
        obtain ⟨hF3, hT3, hO3⟩ := hc3
        refine q_iload_n (pc := 123) dX8_planned_123 rfl ?_
        refine q_iconst (pc := 124) dX8_planned_124 ?_
        refine q_iadd (pc := 125) dX8_planned_125 ?_
        refine q_iload_n (pc := 126) dX8_planned_126 rfl ?_
        refine q_icmpge (pc := 127) (tgt := 178) dX8_planned_127 (by decide) (by omega) (by omega) (fun h127 => ?_) (fun h => absurd h (by omega))
        refine q_aload_n (pc := 178) dX8_planned_178 rfl ?_
        refine q_getR (pc := 179) dX8_planned_179 fX8_25 rfl rfl ?_
        refine q_iload_n (pc := 182) dX8_planned_182 rfl ?_
        refine q_S2v (pc := 183) dX8_planned_183 vX8_219 (Nat.le_of_ble_eq_true rfl) (Nat.le_of_ble_eq_true rfl) (t_X8_hoursOf sh88 hT3 (by omega) (by omega) hO (by omega)) (fun σ4 hc4 => ?_)
        obtain ⟨hF4, hT4⟩ := hc4
        have hFx := (hF2.tt hF3).tt hF4
        refine q_aload_n (pc := 186) dX8_planned_186 rfl ?_
        refine q_getR (pc := 187) dX8_planned_187 fX8_25 rfl rfl ?_
        refine q_S1i (pc := 190) dX8_planned_190 vX8_210 (Nat.le_of_ble_eq_true rfl) (Nat.le_of_ble_eq_true rfl) (t_X8_isLevel sh88 hT4 (mHours_ok hO _) (by omega) (by omega)) (fun r5 σ5 hc5 => ?_)
        obtain ⟨rfl, rfl⟩ := hc5
        refine q_ifeqb (pc := 193) (tgt := 198) dX8_planned_193 (by decide) (fun h193 => ?_) (fun h193 => ?_)
        · refine q_goto (pc := 198) (tgt := 60) dX8_planned_198 (by decide) ?_
          first
          | exact q_locs _ [1, 2, 3, 4] rfl (next τ PF.rf et (Or.inl (by assumption)))
          | exact q_locs _ [1, 2, 3, 4] rfl (next σ4 (PF.f88 hFx) (by rw [hFx 92 (by simp)]; exact et) (Or.inr (if_neg (by assumption))))
        · refine q_iconst (pc := 196) dX8_planned_196 ?_
          refine q_rz (pc := 197) dX8_planned_197 rfl (by first | exact bi_01 _ | omega) ?_
          refine k1 [(i : Int)] σ4 ?_ (hF0.tt (PF.f88 hFx)) (fun j hj => ?_)
          · show (if _ then _ else _) = _
            rw [if_pos (by assumption)]
            show (match (if mLevel (mHours n.toNat (mDo g i)) then some [] else none : Option (List Int)) with | some l => some ((i : Int) :: l) | none => _) = _
            rw [if_pos (by assumption)]
          · have ej : j = 0 := by omega
            subst ej
            rw [hFx 92 (by simp), show (δ : Int) + ((0 : Nat) : Int) = δ by omega]
            exact et
  | succ ℓ ih =>
    intro δ hd m
    induction m with
    | zero =>
      intro i g σ hm hg hf hs ht k1 k0
      have e5 := hf 5 (by omega) (by omega)
      refine q_iload_n (pc := 60) dX8_planned_60 rfl ?_
      refine q_iflt (pc := 61) (tgt := 201) dX8_planned_61 (by decide) (by omega) (fun h => absurd h (by omega)) (fun h61 => ?_)
      refine q_aload_n (pc := 64) dX8_planned_64 rfl ?_
      refine q_getR (pc := 65) dX8_planned_65 fX8_37 rfl rfl ?_
      refine q_iload_n (pc := 68) dX8_planned_68 rfl ?_
      refine q_dup2 (pc := 69) dX8_planned_69 rfl rfl ?_
      refine q_iald (pc := 70) dX8_planned_70 rfl (by omega) ?_
      refine q_iconst (pc := 71) dX8_planned_71 ?_
      refine q_iadd (pc := 72) dX8_planned_72 ?_
      refine q_iast (pc := 73) dX8_planned_73 rfl (by omega) ?_
      refine q_aload_n (pc := 74) dX8_planned_74 rfl ?_
      refine q_getR (pc := 75) dX8_planned_75 fX8_37 rfl rfl ?_
      refine q_iload_n (pc := 78) dX8_planned_78 rfl ?_
      refine q_iald (pc := 79) dX8_planned_79 rfl (by omega) ?_
      have et : up σ 92 δ (σ 92 δ + 1) 92 δ = (i : Int) := by rw [up_same, if_pos rfl]; omega
      rw [et]
      have e5' : up σ 92 δ (σ 92 δ + 1) 86 5 = f 5 := by rw [up_ne (by omega)]; exact e5
      refine q_istore (pc := 80) dX8_planned_80 (Nat.le_of_ble_eq_true rfl) ?_
      refine q_iload (pc := 82) dX8_planned_82 rfl ?_
      refine q_aload_n (pc := 84) dX8_planned_84 rfl ?_
      refine q_getR (pc := 85) dX8_planned_85 fX8_19 rfl rfl ?_
      refine q_iconst (pc := 88) dX8_planned_88 ?_
      refine q_iald (pc := 89) dX8_planned_89 rfl (by omega) ?_
      refine q_icmplt (pc := 90) (tgt := 99) dX8_planned_90 (by decide) (by omega) (by omega) (fun h => absurd h (by omega)) (fun h90 => ?_)
      refine q_iinc (pc := 93) dX8_planned_93 rfl (Nat.le_of_ble_eq_true rfl) ?_
      refine q_goto (pc := 96) (tgt := 198) dX8_planned_96 (by decide) ?_
      refine q_goto (pc := 198) (tgt := 60) dX8_planned_198 (by decide) ?_
      have q := k0 rfl (up σ 92 δ (σ 92 δ + 1)) ⟨Fr.up (by simp), fun x _ => by rw [up_ne (by omega)], fun k hk => by rw [up_same, if_neg (by omega)]⟩
      rw [show (δ : Int) + -1 = δ - 1 by omega]
      exact q_locs _ [0, 2, 3, 4] rfl q
    | succ m ihm =>
      intro i g σ hm hg hf hs ht k1 k0
      have e5 := hf 5 (by omega) (by omega)
      have hi : 0 ≤ (i : Int) ∧ (i : Int) < f 5 := by omega
      have g5 := hg.2 5 (by omega)
      have hgx := hg.go hi
      have hO := hgx.1.1
      have l1 := hgx.2 1 (by omega)
      have l2 := hgx.2 2 (by omega)
      have l3 := hgx.2 3 (by omega)
      have l4 := hgx.2 4 (by omega)
      have m1 := mHours_o (mDo g i) (j := 1) (by omega) n.toNat
      have m2 := mHours_o (mDo g i) (j := 2) (by omega) n.toNat
      have hF0 : PF σ (up σ 92 δ (σ 92 δ + 1)) δ := ⟨Fr.up (by simp), fun x _ => by rw [up_ne (by omega)], fun k hk => by rw [up_same, if_neg (by omega)]⟩
      have et : up σ 92 δ (σ 92 δ + 1) 92 δ = (i : Int) := by rw [up_same, if_pos rfl]; omega
      have e5' : up σ 92 δ (σ 92 δ + 1) 86 5 = f 5 := by rw [up_ne (by omega)]; exact e5
      have hs' := hF0.sr hs
      have hf' : RwR (up σ 92 δ (σ 92 δ + 1)) 86 f := hf.fr hF0.1 (by simp)
      generalize hτ : up σ 92 δ (σ 92 δ + 1) = τ at *
      have skip : ∀ o, scan (fun k => mF n.toNat (f 5).toNat (ℓ + 1) (mDo g k)) (fun k => ¬ mDone g k) m (i + 1) = o → (mDone g i ∨ mF n.toNat (f 5).toNat (ℓ + 1) (mDo g i) = none) → scan (fun k => mF n.toNat (f 5).toNat (ℓ + 1) (mDo g k)) (fun k => ¬ mDone g k) (m + 1) i = o := by
        intro o ho hz
        rw [← ho]
        show (if _ then _ else _) = _
        by_cases c : mDone g i
        · rw [if_neg (fun z => z c)]
        · rw [if_pos c]
          simp only [hz.resolve_left c]
      have next : ∀ τ', PF τ τ' δ → τ' 92 δ = (i : Int) → (mDone g i ∨ mF n.toNat (f 5).toNat (ℓ + 1) (mDo g i) = none) → qE G mX8_planned (d + 4) 60 [(3, vi δ), (0, vr 82), (1, vi L), (2, vi n)] [] τ' (ri P) := by
        intro τ' hF' ht' hz
        refine ihm (i + 1) g τ' (by omega) hg (hf'.fr hF'.1 (by simp)) (hF'.sr hs') (by rw [ht']; omega) (fun l σ1 hl hF1 hj => k1 l σ1 (skip _ hl hz) ((hF0.tt hF').tt hF1) hj) (fun hl σ1 hF1 => k0 (skip _ hl hz) σ1 ((hF0.tt hF').tt hF1))
      refine q_iload_n (pc := 60) dX8_planned_60 rfl ?_
      refine q_iflt (pc := 61) (tgt := 201) dX8_planned_61 (by decide) (by omega) (fun h => absurd h (by omega)) (fun h61 => ?_)
      refine q_aload_n (pc := 64) dX8_planned_64 rfl ?_
      refine q_getR (pc := 65) dX8_planned_65 fX8_37 rfl rfl ?_
      refine q_iload_n (pc := 68) dX8_planned_68 rfl ?_
      refine q_dup2 (pc := 69) dX8_planned_69 rfl rfl ?_
      refine q_iald (pc := 70) dX8_planned_70 rfl (by omega) ?_
      refine q_iconst (pc := 71) dX8_planned_71 ?_
      refine q_iadd (pc := 72) dX8_planned_72 ?_
      refine q_iast (pc := 73) dX8_planned_73 rfl (by omega) ?_
      rw [hτ]
      refine q_aload_n (pc := 74) dX8_planned_74 rfl ?_
      refine q_getR (pc := 75) dX8_planned_75 fX8_37 rfl rfl ?_
      refine q_iload_n (pc := 78) dX8_planned_78 rfl ?_
      refine q_iald (pc := 79) dX8_planned_79 rfl (by omega) ?_
      rw [et]
      refine q_istore (pc := 80) dX8_planned_80 (Nat.le_of_ble_eq_true rfl) ?_
      refine q_iload (pc := 82) dX8_planned_82 rfl ?_
      refine q_aload_n (pc := 84) dX8_planned_84 rfl ?_
      refine q_getR (pc := 85) dX8_planned_85 fX8_19 rfl rfl ?_
      refine q_iconst (pc := 88) dX8_planned_88 ?_
      refine q_iald (pc := 89) dX8_planned_89 rfl (by omega) ?_
      refine q_icmplt (pc := 90) (tgt := 99) dX8_planned_90 (by decide) (by omega) (by omega) (fun h90 => ?_) (fun h => absurd h (by omega))
      refine q_aload_n (pc := 99) dX8_planned_99 rfl ?_
      refine q_iload_n (pc := 100) dX8_planned_100 rfl ?_
      refine q_iload (pc := 101) dX8_planned_101 rfl ?_
      refine q_V2i (pc := 103) dX8_planned_103 vX8_232 rfl rfl (Nat.le_of_ble_eq_true rfl) (Nat.le_of_ble_eq_true rfl) (t_X8_isStepDone (by omega) hs') (fun r1 σ1 hc1 => ?_)
      obtain ⟨rfl, rfl⟩ := hc1
      refine q_ifneb (pc := 106) (tgt := 198) dX8_planned_106 (by decide) (fun h106 => ?_) (fun h106 => ?_)
      · refine q_goto (pc := 198) (tgt := 60) dX8_planned_198 (by decide) ?_
        exact q_locs _ [1, 2, 3, 4] rfl (next τ PF.rf et (Or.inl (by assumption)))
      · refine q_aload_n (pc := 109) dX8_planned_109 rfl ?_
        refine q_iload_n (pc := 110) dX8_planned_110 rfl ?_
        refine q_V1v (pc := 111) dX8_planned_111 vX8_229 rfl rfl (Nat.le_of_ble_eq_true rfl) (Nat.le_of_ble_eq_true rfl) (t_X8_layStep (by omega) hs') (fun σ2 hc2 => ?_)
        obtain ⟨hF2, hT2⟩ := hc2
        refine q_aload_n (pc := 114) dX8_planned_114 rfl ?_
        refine q_getR (pc := 115) dX8_planned_115 fX8_25 rfl rfl ?_
        refine q_iload (pc := 118) dX8_planned_118 rfl ?_
        refine q_S2v (pc := 120) dX8_planned_120 vX8_202 (Nat.le_of_ble_eq_true rfl) (Nat.le_of_ble_eq_true rfl) (t_X8_does sh88 hT2 hg.1 (by omega)) (fun σ3 hc3 => ?_)
        obtain ⟨hF3, hT3, hO3⟩ := hc3
        refine q_iload_n (pc := 123) dX8_planned_123 rfl ?_
        refine q_iconst (pc := 124) dX8_planned_124 ?_
        refine q_iadd (pc := 125) dX8_planned_125 ?_
        refine q_iload_n (pc := 126) dX8_planned_126 rfl ?_
        refine q_icmpge (pc := 127) (tgt := 178) dX8_planned_127 (by decide) (by omega) (by omega) (fun h => absurd h (by omega)) (fun h127 => ?_)
        refine q_iinc (pc := 130) dX8_planned_130 rfl (Nat.le_of_ble_eq_true rfl) ?_
        refine q_iconst (pc := 133) dX8_planned_133 ?_
        refine q_istore (pc := 134) dX8_planned_134 (Nat.le_of_ble_eq_true rfl) ?_
        have hFx := hF2.tt hF3
        refine q_locs _ [0, 1, 2, 3, 4, 5] rfl (m_push_l (δ := δ + 1) (by omega) hT3 (fun τ2 x hF2 h2 hs2 => ?_) 34 0 _ rfl Fr.rf (fun _ _ => rfl) (fun j a b => by omega))
        have hFy : PF τ τ2 δ := (PF.f88 hFx).tt ⟨hF2.wk (by simp), fun y hy => h2 y (by push_cast; omega), fun k _ => by rw [hF2 92 (by simp)]⟩
        have hFz : PF τ (up τ2 92 ((δ + 1 : Nat) : Int) (-1)) δ := hFy.tt ⟨Fr.up (by simp), fun y _ => by rw [up_ne (by omega)], fun k hk => by rw [up_same, if_neg (by push_cast; omega)]⟩
        have etz : up τ2 92 ((δ + 1 : Nat) : Int) (-1) 92 δ = (i : Int) := by
          rw [up_same, if_neg (by push_cast; omega), hF2 92 (by simp), hFx 92 (by simp)]
          exact et
        refine q_aload_n (pc := 168) dX8_planned_168 rfl ?_
        refine q_getR (pc := 169) dX8_planned_169 fX8_37 rfl rfl ?_
        refine q_iload_n (pc := 172) dX8_planned_172 rfl ?_
        refine q_iconst (pc := 173) dX8_planned_173 ?_
        refine q_iast (pc := 174) dX8_planned_174 rfl (by omega) ?_
        refine q_goto (pc := 175) (tgt := 198) dX8_planned_175 (by decide) ?_
        refine q_goto (pc := 198) (tgt := 60) dX8_planned_198 (by decide) ?_
        refine q_locs _ [1, 3, 4, 5] rfl (ih (δ + 1) (by omega) (f 5).toNat 0 (mDo g i) _ (by omega) hgx (hf'.fr hFz.1 (by simp)) (fun j a b => by rw [up_ne (by omega)]; exact hs2 j a b) (by rw [up_same, if_pos rfl]; rfl) (fun l σ1 hl hF1 hj => ?_) (fun hl σ1 hF1 => ?_))
        · refine k1 ((i : Int) :: l) σ1 ?_ (hF0.tt (hFz.tt hF1.dn)) (fun j hj' => ?_)
          · show (if _ then _ else _) = _
            rw [if_pos (by assumption)]
            have hl' : mF n.toNat (f 5).toNat (ℓ + 1) (mDo g i) = some l := hl
            simp only [hl']
          · cases j with
            | zero =>
              show σ1 92 ((δ : Int) + ((0 : Nat) : Int)) = (i : Int)
              rw [show (δ : Int) + ((0 : Nat) : Int) = δ by omega, hF1.2.2 δ (by push_cast; omega)]
              exact etz
            | succ j =>
              have := hj j (by omega)
              show σ1 92 ((δ : Int) + ((j + 1 : Nat) : Int)) = l.getD j 0
              rw [← this]
              congr 1
              push_cast
              omega
        · have q := next σ1 (hFz.tt hF1.dn) (by rw [hF1.2.2 δ (by push_cast; omega)]; exact etz) (Or.inr hl)
          rw [show ((δ + 1 : Nat) : Int) - 1 = δ by push_cast; omega]
          exact q
theorem m_lay0_l {L n : Int} {Q : Option qV → qM → Prop} (hf : RwR σ 86 f) (kk : ∀ σ1 x, Fr σ σ1 [91] → SR σ1 0 f → qE G mX8_planned d 26 [(3, vi x), (0, vr 82), (1, vi L), (2, vi n)] [] σ1 Q) : ∀ (m t : Nat) (σ' : qM), m + t = 34 → Fr σ σ' [91] → (∀ j, 0 ≤ j → j < (t : Int) → σ' 91 j = f j) → qE G mX8_planned d 2 [(3, vi t), (0, vr 82), (1, vi L), (2, vi n)] [] σ' Q := by
  intro m
  induction m with
  | zero =>
    intro t σ' ht hF h
    refine q_iload_n (pc := 2) dX8_planned_2 rfl ?_
    refine q_bipush (pc := 3) dX8_planned_3 (by decide +kernel) ?_
    refine q_icmpge (pc := 5) (tgt := 26) dX8_planned_5 (by decide) (by omega) (by omega) (fun h5 => ?_) (fun h => absurd h (by omega))
    exact kk σ' t hF (fun j a b => by rw [show 34 * ((0 : Nat) : Int) + j = j by omega]; exact h j a (by omega))
  | succ m ih =>
    intro t σ' ht hF h
    have e6 : σ' 86 t = f t := by rw [hF 86 (by simp)]; exact hf t (by omega) (by omega)
    refine q_iload_n (pc := 2) dX8_planned_2 rfl ?_
    refine q_bipush (pc := 3) dX8_planned_3 (by decide +kernel) ?_
    refine q_icmpge (pc := 5) (tgt := 26) dX8_planned_5 (by decide) (by omega) (by omega) (fun h => absurd h (by omega)) (fun h5 => ?_)
    refine q_aload_n (pc := 8) dX8_planned_8 rfl ?_
    refine q_getR (pc := 9) dX8_planned_9 fX8_34 rfl rfl ?_
    refine q_iload_n (pc := 12) dX8_planned_12 rfl ?_
    refine q_aload_n (pc := 13) dX8_planned_13 rfl ?_
    refine q_getR (pc := 14) dX8_planned_14 fX8_19 rfl rfl ?_
    refine q_iload_n (pc := 17) dX8_planned_17 rfl ?_
    refine q_iald (pc := 18) dX8_planned_18 rfl (by omega) ?_
    refine q_iast (pc := 19) dX8_planned_19 rfl (by omega) ?_
    refine q_iinc (pc := 20) dX8_planned_20 rfl (Nat.le_of_ble_eq_true rfl) ?_
    refine q_goto (pc := 23) (tgt := 2) dX8_planned_23 (by decide) ?_
    have q := ih (t + 1) (up σ' 91 t (σ' 86 t)) (by omega) (hF.tt (Fr.up (by simp))) (fun j a b => ?_)
    · exact q_locs _ [0, 1, 2, 3] rfl q
    · rw [up_same, e6]
      by_cases c : j = t
      · rw [if_pos c, c]
      · rw [if_neg c]
        exact h j a (by omega)
theorem t_X8_planned {n : Int} {L : Nat} (hf : RwR σ 86 f) (hR : Row f) (h1 : f 0 = 1) (hn : 0 ≤ n ∧ n ≤ 24) (hL : L ≤ 7) : qE G mX8_planned (d + 4) 0 [(0, vr 82), (1, vi L), (2, vi n)] [] σ (ri fun r σ1 => bi ((mF n.toNat (f 5).toNat L f).isSome = true) = r ∧ Fr σ σ1 [88, 91, 92] ∧ ∀ l, mF n.toNat (f 5).toNat L f = some l → ∀ j : Nat, j < L → σ1 92 j = l.getD j 0) := by
  have h5 := hR.de
  have hl := hR.law h1
  have h4 := hR.2.1
  have m1 := mHours_o f (j := 1) (by omega) n.toNat
  have m2 := mHours_o f (j := 2) (by omega) n.toNat
  refine q_iconst (pc := 0) dX8_planned_0 ?_
  refine q_istore_n (pc := 1) dX8_planned_1 (Nat.le_of_ble_eq_true rfl) ?_
  refine m_lay0_l hf (fun σ1 x hF1 hs1 => ?_) 34 0 σ rfl Fr.rf (fun j a b => by omega)
  have hF0 : Fr σ (up σ1 92 0 (-1)) [88, 91, 92] := (hF1.wk (by simp)).tt (Fr.up (by simp))
  have hs0 : SR (up σ1 92 0 (-1)) 0 f := fun j a b => by rw [up_ne (by omega)]; exact hs1 j a b
  have hf0 : RwR (up σ1 92 0 (-1)) 86 f := hf.fr hF0 (by simp)
  have ht0 : up σ1 92 0 (-1) 92 0 = -1 := by rw [up_same, if_pos rfl]
  rcases Nat.eq_zero_or_pos L with hz | hz
  · subst hz
    refine q_iconst (pc := 26) dX8_planned_26 ?_
    refine q_istore_n (pc := 27) dX8_planned_27 (Nat.le_of_ble_eq_true rfl) ?_
    refine q_aload_n (pc := 28) dX8_planned_28 rfl ?_
    refine q_getR (pc := 29) dX8_planned_29 fX8_37 rfl rfl ?_
    refine q_iconst (pc := 32) dX8_planned_32 ?_
    refine q_iconst (pc := 33) dX8_planned_33 ?_
    refine q_iast (pc := 34) dX8_planned_34 rfl (by omega) ?_
    refine q_iload_n (pc := 35) dX8_planned_35 rfl ?_
    refine q_ifne (pc := 36) (tgt := 60) dX8_planned_36 (by decide) (by omega) (fun h => absurd h (by omega)) (fun h36 => ?_)
    refine q_aload_n (pc := 39) dX8_planned_39 rfl ?_
    refine q_iconst (pc := 40) dX8_planned_40 ?_
    refine q_V1v (pc := 41) dX8_planned_41 vX8_229 rfl rfl (Nat.le_of_ble_eq_true rfl) (Nat.le_of_ble_eq_true rfl) (t_X8_layStep (δ := 0) (by omega) hs0) (fun σ1 hc1 => ?_)
    obtain ⟨hF1, hT1⟩ := hc1
    refine q_aload_n (pc := 44) dX8_planned_44 rfl ?_
    refine q_getR (pc := 45) dX8_planned_45 fX8_25 rfl rfl ?_
    refine q_iload_n (pc := 48) dX8_planned_48 rfl ?_
    refine q_S2v (pc := 49) dX8_planned_49 vX8_219 (Nat.le_of_ble_eq_true rfl) (Nat.le_of_ble_eq_true rfl) (t_X8_hoursOf sh88 hT1 hl.2.2.1 (by omega) hR.1 (by omega)) (fun σ2 hc2 => ?_)
    obtain ⟨hF2, hT2⟩ := hc2
    refine q_aload_n (pc := 52) dX8_planned_52 rfl ?_
    refine q_getR (pc := 53) dX8_planned_53 fX8_25 rfl rfl ?_
    refine q_S1i (pc := 56) dX8_planned_56 vX8_210 (Nat.le_of_ble_eq_true rfl) (Nat.le_of_ble_eq_true rfl) (t_X8_isLevel sh88 hT2 (mHours_ok hR.1 _) (by omega) (by omega)) (fun r3 σ3 hc3 => ?_)
    obtain ⟨rfl, rfl⟩ := hc3
    refine q_rz (pc := 59) dX8_planned_59 rfl (by first | exact bi_01 _ | omega) ?_
    refine ⟨?_, hF0.tt ((hF1.tt hF2).wk (by simp)), fun l hl j hj => absurd hj (by omega)⟩
    show bi ((if mLevel (mHours n.toNat f) then some [] else none : Option (List Int)).isSome = true) = _
    by_cases c : mLevel (mHours n.toNat f)
    · rw [bi_t c]; exact bi_t (by rw [if_pos c]; rfl)
    · rw [bi_f c]; exact bi_f (by rw [if_neg c]; simp)
  · obtain ⟨ℓ, rfl⟩ : ∃ ℓ, L = ℓ + 1 := ⟨L - 1, by omega⟩
    refine q_iconst (pc := 26) dX8_planned_26 ?_
    refine q_istore_n (pc := 27) dX8_planned_27 (Nat.le_of_ble_eq_true rfl) ?_
    refine q_aload_n (pc := 28) dX8_planned_28 rfl ?_
    refine q_getR (pc := 29) dX8_planned_29 fX8_37 rfl rfl ?_
    refine q_iconst (pc := 32) dX8_planned_32 ?_
    refine q_iconst (pc := 33) dX8_planned_33 ?_
    refine q_iast (pc := 34) dX8_planned_34 rfl (by omega) ?_
    refine q_iload_n (pc := 35) dX8_planned_35 rfl ?_
    refine q_ifne (pc := 36) (tgt := 60) dX8_planned_36 (by decide) (by omega) (fun h36 => ?_) (fun h => absurd h (by omega))
    refine q_locs _ [0, 1, 2, 3] rfl (m_find (L := ℓ + 1) hR h1 hn hL ℓ 0 (by omega) (f 5).toNat 0 f _ (by omega) ⟨hR, fun _ _ => rfl⟩ hf0 hs0 ht0 (fun l σ2 hl0 hF2 hj => ?_) (fun hl0 σ2 hF2 => ?_))
    · have hl0 : mF n.toNat (f 5).toNat (ℓ + 1) f = some l := hl0
      rw [hl0]
      refine ⟨bi_t rfl, hF0.tt hF2.1, fun k hk j hj' => ?_⟩
      have hk : l = k := by simpa using hk
      subst hk
      have := hj j hj'
      rw [show ((0 : Nat) : Int) + (j : Int) = j by omega] at this
      exact this
    · have hl0 : mF n.toNat (f 5).toNat (ℓ + 1) f = none := hl0
      rw [hl0]
      refine q_iload_n (pc := 60) dX8_planned_60 rfl ?_
      refine q_iflt (pc := 61) (tgt := 201) dX8_planned_61 (by decide) (by omega) (fun h61 => ?_) (fun h => absurd h (by omega))
      refine q_iconst (pc := 201) dX8_planned_201 ?_
      refine q_rz (pc := 202) dX8_planned_202 rfl (by first | exact bi_01 _ | omega) ?_
      exact ⟨bi_f (by simp), hF0.tt hF2.1, fun l hl => absurd hl (by simp)⟩
theorem m_plan_l {n w : Int} (hf0 : RwR σ 86 f) (hR : Row f) (h1 : f 0 = 1) (hn : 0 ≤ n ∧ n ≤ 24) (hw : -1 ≤ w ∧ w ≤ 2147483647) : ∀ (m L : Nat) (σ' : qM), m + L = (f 5).toNat + 1 → Fr σ σ' [88, 91, 92] → qE G mX8_plan (d + 5) 37 [(3, vi L), (0, vr 82), (1, vi n), (2, vi w)] [] σ' (ri fun r σ1 => pAns w (pL n.toNat (f 5).toNat f m L) = r ∧ Fr σ σ1 [88, 91, 92]) := by
  have h5 := hR.de
  intro m
  induction m with
  | zero =>
    intro L σ' hm hF
    have e5 : σ' 86 5 = f 5 := (hf0.fr hF (by simp)) 5 (by omega) (by omega)
    refine q_iload_n (pc := 37) dX8_plan_37 rfl ?_
    refine q_aload_n (pc := 38) dX8_plan_38 rfl ?_
    refine q_getR (pc := 39) dX8_plan_39 fX8_19 rfl rfl ?_
    refine q_iconst (pc := 42) dX8_plan_42 ?_
    refine q_iald (pc := 43) dX8_plan_43 rfl (by omega) ?_
    refine q_icmpgt (pc := 44) (tgt := 88) dX8_plan_44 (by decide) (by omega) (by omega) (fun h44 => ?_) (fun h => absurd h (by omega))
    refine q_ldc (pc := 88) (n := -1000000) kX8_93 dX8_plan_88 ?_
    refine q_ri (pc := 90) dX8_plan_90 rfl ?_
    exact ⟨rfl, hF⟩
  | succ m ih =>
    intro L σ' hm hF
    have hf := hf0.fr hF (by simp)
    have e5 : σ' 86 5 = f 5 := hf 5 (by omega) (by omega)
    refine q_iload_n (pc := 37) dX8_plan_37 rfl ?_
    refine q_aload_n (pc := 38) dX8_plan_38 rfl ?_
    refine q_getR (pc := 39) dX8_plan_39 fX8_19 rfl rfl ?_
    refine q_iconst (pc := 42) dX8_plan_42 ?_
    refine q_iald (pc := 43) dX8_plan_43 rfl (by omega) ?_
    refine q_icmpgt (pc := 44) (tgt := 88) dX8_plan_44 (by decide) (by omega) (by omega) (fun h => absurd h (by omega)) (fun h44 => ?_)
    refine q_aload_n (pc := 47) dX8_plan_47 rfl ?_
    refine q_iload_n (pc := 48) dX8_plan_48 rfl ?_
    refine q_iload_n (pc := 49) dX8_plan_49 rfl ?_
    refine q_V2i (pc := 50) dX8_plan_50 vX8_236 rfl rfl (Nat.le_of_ble_eq_true rfl) (Nat.le_of_ble_eq_true rfl) (t_X8_planned hf hR h1 hn (by omega)) (fun r1 σ1 hc1 => ?_)
    obtain ⟨rfl, hF1, hl1⟩ := hc1
    refine q_ifeqb (pc := 53) (tgt := 82) dX8_plan_53 (by decide) (fun h53 => ?_) (fun h53 => ?_)
    · refine q_iinc (pc := 82) dX8_plan_82 rfl (Nat.le_of_ble_eq_true rfl) ?_
      refine q_goto (pc := 85) (tgt := 37) dX8_plan_85 (by decide) ?_
      have hz : mF n.toNat (f 5).toNat L f = none := by
        cases ez : mF n.toNat (f 5).toNat L f with
        | none => rfl
        | some l => exact absurd (show (mF n.toNat (f 5).toNat L f).isSome = true by rw [ez]; rfl) h53
      have es : pL n.toNat (f 5).toNat f (m + 1) L = pL n.toNat (f 5).toNat f m (L + 1) := by
        show (match mF n.toNat (f 5).toNat L f with | some l => some (L, l) | none => pL n.toNat (f 5).toNat f m (L + 1)) = _
        rw [hz]
      rw [es]
      exact q_locs _ [0, 1, 2, 3] rfl (ih (L + 1) σ1 (by omega) (hF.tt hF1))
    · refine q_iload_n (pc := 56) dX8_plan_56 rfl ?_
      refine q_iconst (pc := 57) dX8_plan_57 ?_
      refine q_icmpne (pc := 58) (tgt := 65) dX8_plan_58 (by decide) (by omega) (by omega) (fun h58 => ?_) (fun h58 => ?_)
      · refine q_iload_n (pc := 65) dX8_plan_65 rfl ?_
        refine q_iload_n (pc := 66) dX8_plan_66 rfl ?_
        refine q_icmpge (pc := 67) (tgt := 79) dX8_plan_67 (by decide) (by omega) (by omega) (fun h67 => ?_) (fun h67 => ?_)
        · refine q_ldc (pc := 79) (n := -1000000) kX8_93 dX8_plan_79 ?_
          refine q_ri (pc := 81) dX8_plan_81 rfl ?_
          obtain ⟨l, hl0⟩ := Option.isSome_iff_exists.mp h53
          have es : pL n.toNat (f 5).toNat f (m + 1) L = some (L, l) := by
            unfold pL
            rw [hl0]
          rw [es, pAns_1]
          refine ⟨?_, hF.tt hF1⟩
          first
          | (rw [if_pos (by omega)]; done)
          | (rw [if_neg (by omega), if_neg (by omega)]; done)
          | (rw [if_neg (by omega), if_pos (by omega)]
             have := hl1 l hl0 w.toNat (by omega)
             rw [show ((w.toNat : Nat) : Int) = w by omega] at this
             exact this.symm)
        · refine q_aload_n (pc := 70) dX8_plan_70 rfl ?_
          refine q_getR (pc := 71) dX8_plan_71 fX8_37 rfl rfl ?_
          refine q_iload_n (pc := 74) dX8_plan_74 rfl ?_
          refine q_iald (pc := 75) dX8_plan_75 rfl (by omega) ?_
          refine q_goto (pc := 76) (tgt := 81) dX8_plan_76 (by decide) ?_
          refine q_ri (pc := 81) dX8_plan_81 rfl ?_
          obtain ⟨l, hl0⟩ := Option.isSome_iff_exists.mp h53
          have es : pL n.toNat (f 5).toNat f (m + 1) L = some (L, l) := by
            unfold pL
            rw [hl0]
          rw [es, pAns_1]
          refine ⟨?_, hF.tt hF1⟩
          first
          | (rw [if_pos (by omega)]; done)
          | (rw [if_neg (by omega), if_neg (by omega)]; done)
          | (rw [if_neg (by omega), if_pos (by omega)]
             have := hl1 l hl0 w.toNat (by omega)
             rw [show ((w.toNat : Nat) : Int) = w by omega] at this
             exact this.symm)
      · refine q_iload_n (pc := 61) dX8_plan_61 rfl ?_
        refine q_goto (pc := 62) (tgt := 81) dX8_plan_62 (by decide) ?_
        refine q_ri (pc := 81) dX8_plan_81 rfl ?_
        obtain ⟨l, hl0⟩ := Option.isSome_iff_exists.mp h53
        have es : pL n.toNat (f 5).toNat f (m + 1) L = some (L, l) := by
          unfold pL
          rw [hl0]
        rw [es, pAns_1]
        refine ⟨?_, hF.tt hF1⟩
        first
        | (rw [if_pos (by omega)]; done)
        | (rw [if_neg (by omega), if_neg (by omega)]; done)
        | (rw [if_neg (by omega), if_pos (by omega)]
           have := hl1 l hl0 w.toNat (by omega)
           rw [show ((w.toNat : Nat) : Int) = w by omega] at this
           exact this.symm)
theorem m_plan {n w : Int} (hM : MR σ A) (hV : AV A) (hn : -2147483648 ≤ n ∧ n ≤ 2147483647) (hw : -2147483648 ≤ w ∧ w ≤ 2147483647) : qE G mX8_plan (d + 5) 0 [(0, vr 82), (1, vi n), (2, vi w)] [] σ (ri (pM σ (s_plan A n w))) := by
  have hR := hV.1
  have h01 := hR.f0
  refine q_aload_n (pc := 0) dX8_plan_0 rfl ?_
  refine q_iconst (pc := 1) dX8_plan_1 ?_
  refine q_pI (pc := 2) 0 dX8_plan_2 wX8_50 rfl rfl rfl ?_
  have hM := hM.fld (i := 0) (v := 0) (by decide)
  have hF0 : ∀ j, j < 82 → up σ 82 0 0 j = σ j := fun j hj => up_ne (by omega)
  generalize up σ 82 0 0 = τ at hM hF0 ⊢
  refine q_aload_n (pc := 5) dX8_plan_5 rfl ?_
  refine q_V0i (pc := 6) dX8_plan_6 vX8_184 rfl rfl (Nat.le_of_ble_eq_true rfl) (Nat.le_of_ble_eq_true rfl) (t_X8_isThere hM.1 h01) (fun r1 σ1 hc1 => ?_)
  obtain ⟨rfl, rfl⟩ := hc1
  refine q_ifneb (pc := 9) (tgt := 15) dX8_plan_9 (by decide) (fun h9 => ?_) (fun h9 => ?_)
  · refine q_iload_n (pc := 15) dX8_plan_15 rfl ?_
    refine q_i2l (pc := 16) dX8_plan_16 (by omega) ?_
    refine q_lconst0 (pc := 17) dX8_plan_17 ?_
    refine q_ldc2 (pc := 18) (n := 24) kX8_188 dX8_plan_18 ?_
    refine q_S3i (pc := 21) dX8_plan_21 vX8_60 (Nat.le_of_ble_eq_true rfl) (Nat.le_of_ble_eq_true rfl) (t_X8_in (by omega) (by omega) (by omega)) (fun r2 σ2 hc2 => ?_)
    obtain ⟨rfl, rfl⟩ := hc2
    refine q_ifeqb (pc := 24) (tgt := 32) dX8_plan_24 (by decide) (fun h24 => ?_) (fun h24 => ?_)
    · refine q_ldc (pc := 32) (n := -1000001) kX8_70 dX8_plan_32 ?_
      refine q_ri (pc := 34) dX8_plan_34 rfl ?_
      refine pM.q0 hF0 hM ?_
      repeat' (first | rw [if_neg (by omega)] | rw [if_pos (by omega)])
    · refine q_iload_n (pc := 27) dX8_plan_27 rfl ?_
      refine q_iconst (pc := 28) dX8_plan_28 ?_
      refine q_icmpge (pc := 29) (tgt := 35) dX8_plan_29 (by decide) (by omega) (by omega) (fun h29 => ?_) (fun h29 => ?_)
      · refine q_iconst (pc := 35) dX8_plan_35 ?_
        refine q_istore_n (pc := 36) dX8_plan_36 (Nat.le_of_ble_eq_true rfl) ?_
        refine q_mono (fun v σ' h => ?_) (m_plan_l hM.1 hR (by omega) (by omega) (by omega) ((A.1 5).toNat + 1) 0 τ rfl Fr.rf)
        obtain ⟨x, h1, h2, h3⟩ := h
        refine ⟨x, h1, pM.q hF0 hM h3 (scr_im (by decide)) ?_⟩
        rw [if_pos (by omega), if_pos (by omega)]
        exact h2
      · refine q_ldc (pc := 32) (n := -1000001) kX8_70 dX8_plan_32 ?_
        refine q_ri (pc := 34) dX8_plan_34 rfl ?_
        refine pM.q0 hF0 hM ?_
        repeat' (first | rw [if_neg (by omega)] | rw [if_pos (by omega)])
  · refine q_ldc (pc := 12) (n := -1000002) kX8_187 dX8_plan_12 ?_
    refine q_ri (pc := 14) dX8_plan_14 rfl ?_
    refine pM.q0 hF0 hM ?_
    repeat' (first | rw [if_neg (by omega)] | rw [if_pos (by omega)])
end T8
