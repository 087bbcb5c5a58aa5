/-! ===== the reference: wrong ===== -/
theorem s_skip {f : Int → Int} (hR : Row f) {p : Int} : ∀ j : Nat, (wO f).toNat + 1 + j ≤ 2 ^ (f 5).toNat → sA p f (f 5).toNat ((wO f).toNat + 1 + j) = sA p f (f 5).toNat ((wO f).toNat + 1) ∧ sB p f (f 5).toNat ((wO f).toNat + 1 + j) = sB p f (f 5).toNat ((wO f).toNat + 1)
  | 0, _ => ⟨rfl, rfl⟩
  | j + 1, hj => by
    obtain ⟨i1, i2⟩ := s_skip hR (p := p) j (by omega)
    have hO := (wO_in hR).1
    have hn : ¬ wok f ((wO f).toNat + 1 + j) (f 5).toNat := fun z => by
      have := (wok_m hR (s := (wO f).toNat + 1 + j) (by omega)).2 z
      omega
    constructor
    · show sA p f (f 5).toNat ((wO f).toNat + 1 + j) + (if wok f ((wO f).toNat + 1 + j) (f 5).toNat ∧ _ then _ else 0) = _
      rw [if_neg (fun z => hn z.1), i1, Int.add_zero]
    · show sB p f (f 5).toNat ((wO f).toNat + 1 + j) + (if wok f ((wO f).toNat + 1 + j) (f 5).toNat then _ else 0) = _
      rw [if_neg hn, i2, Int.add_zero]
theorem s_end {f : Int → Int} (hR : Row f) (p : Int) : sA p f (f 5).toNat ((wO f).toNat + 1) = wA f p ∧ sB p f (f 5).toNat ((wO f).toNat + 1) = wB f p := by
  have hO := (wO_in hR).1
  have h1 := hO.2
  rw [pow_c] at h1
  have q := s_skip hR (p := p) (2 ^ (f 5).toNat - ((wO f).toNat + 1)) (by omega)
  rw [show (wO f).toNat + 1 + (2 ^ (f 5).toNat - ((wO f).toNat + 1)) = 2 ^ (f 5).toNat by omega] at q
  exact ⟨q.1.symm, q.2.symm⟩
section T8
variable {G : qGl} {d : Nat} {σ : qM} {A : qA} {f g : Int → Int}
theorem m_case_in {p w a b : Int} {s : Nat} {Q : Option qV → qM → Prop} (hf0 : RwR σ 86 f) (hR : Row f) (h1 : f 0 = 1) (hs : s < 2 ^ (f 5).toNat) (hok : wok f s (f 5).toNat) (hp : 0 ≤ p ∧ p ≤ 10) (kk : ∀ σ1 x, Fr σ σ1 [88] → RwR σ1 88 (wG f s (f 5).toNat) → qE G mX8_wrong (d + 4) 180 [(11, vi x), (9, vl (wW p f s (f 5).toNat)), (8, vi s), (6, vl b), (4, vl a), (3, vi (wO f)), (0, vr 82), (1, vi p), (2, vi w)] [] σ1 Q) : ∀ (m i : Nat) (σ' : qM), m + i = (f 5).toNat → Fr σ σ' [88] → RwR σ' 88 (wG f s i) → qE G mX8_wrong (d + 4) 97 [(11, vi i), (9, vl (wW p f s i)), (8, vi s), (6, vl b), (4, vl a), (3, vi (wO f)), (0, vr 82), (1, vi p), (2, vi w)] [] σ' Q := by
  intro m
  have h5 := hR.de
  have h7 := p2 (m := (f 5).toNat) (by omega)
  induction m with
  | zero =>
    intro i σ' hm hF hT
    have e5 : σ' 86 5 = f 5 := by rw [hF 86 (by simp)]; exact hf0 5 (by omega) (by omega)
    refine q_iload (pc := 97) dX8_wrong_97 rfl ?_
    refine q_aload_n (pc := 99) dX8_wrong_99 rfl ?_
    refine q_getR (pc := 100) dX8_wrong_100 fX8_19 rfl rfl ?_
    refine q_iconst (pc := 103) dX8_wrong_103 ?_
    refine q_iald (pc := 104) dX8_wrong_104 rfl (by omega) ?_
    refine q_icmpge (pc := 105) (tgt := 180) dX8_wrong_105 (by decide) (by omega) (by omega) (fun h105 => ?_) (fun h => absurd h (by omega))
    have e : i = (f 5).toNat := by omega
    subst e
    exact kk σ' _ hF hT
  | succ m ih =>
    intro i σ' hm hF hT
    have e5 : σ' 86 5 = f 5 := by rw [hF 86 (by simp)]; exact hf0 5 (by omega) (by omega)
    have hb := bt_01 (s := s) (i := i) (by omega) (by omega)
    obtain ⟨hO1, hO2⟩ := (wO_in hR).2 i (by omega)
    obtain ⟨r1, r2⟩ := wG_row hR s i (by omega)
    have r5 := r2 5 (by omega)
    have hob : bt s i → bt (wO f) i := fun z => hO2.mpr ⟨by omega, hok i (by omega) z⟩
    refine q_iload (pc := 97) dX8_wrong_97 rfl ?_
    refine q_aload_n (pc := 99) dX8_wrong_99 rfl ?_
    refine q_getR (pc := 100) dX8_wrong_100 fX8_19 rfl rfl ?_
    refine q_iconst (pc := 103) dX8_wrong_103 ?_
    refine q_iald (pc := 104) dX8_wrong_104 rfl (by omega) ?_
    refine q_icmpge (pc := 105) (tgt := 180) dX8_wrong_105 (by decide) (by omega) (by omega) (fun h => absurd h (by omega)) (fun h105 => ?_)
    refine q_iload (pc := 108) dX8_wrong_108 rfl ?_
    refine q_iload (pc := 110) dX8_wrong_110 rfl ?_
    refine q_ishr (pc := 112) dX8_wrong_112 ?_
    refine q_iconst (pc := 113) dX8_wrong_113 ?_
    refine q_iand (pc := 114) dX8_wrong_114 ?_
    refine q_iconst (pc := 115) dX8_wrong_115 ?_
    refine q_icmpne (pc := 116) (tgt := 123) dX8_wrong_116 (by decide) (by omega) (by omega) (fun h116 => ?_) (fun h116 => ?_)
    · refine q_iconst (pc := 123) dX8_wrong_123 ?_
      refine q_istore (pc := 124) dX8_wrong_124 (Nat.le_of_ble_eq_true rfl) ?_
      refine q_lload (pc := 126) dX8_wrong_126 rfl ?_
      refine q_iload_n (pc := 128) dX8_wrong_128 rfl ?_
      refine q_iload (pc := 129) dX8_wrong_129 rfl ?_
      refine q_ishr (pc := 131) dX8_wrong_131 ?_
      refine q_iconst (pc := 132) dX8_wrong_132 ?_
      refine q_iand (pc := 133) dX8_wrong_133 ?_
      refine q_ifne (pc := 134) (tgt := 141) dX8_wrong_134 (by decide) (by omega) (fun h134 => ?_) (fun h134 => ?_)
      · refine q_iload (pc := 141) dX8_wrong_141 rfl ?_
        refine q_ifeq (pc := 143) (tgt := 155) dX8_wrong_143 (by decide) (by omega) (fun h143 => ?_) (fun h => absurd h (by omega))
        refine q_iload_n (pc := 155) dX8_wrong_155 rfl ?_
        refine q_i2l (pc := 156) dX8_wrong_156 (by omega) ?_
        refine q_lmul (pc := 157) dX8_wrong_157 ?_
        refine q_lstore (pc := 158) dX8_wrong_158 (Nat.le_of_ble_eq_true rfl) ?_
        refine q_iload (pc := 160) dX8_wrong_160 rfl ?_
        refine q_ifeq (pc := 162) (tgt := 174) dX8_wrong_162 (by decide) (by omega) (fun h162 => ?_) (fun h => absurd h (by omega))
        refine q_iinc (pc := 174) dX8_wrong_174 rfl (Nat.le_of_ble_eq_true rfl) ?_
        refine q_goto (pc := 177) (tgt := 97) dX8_wrong_177 (by decide) ?_
        first
        | (have eb : ¬ bt s i := by assumption
           have e2 : wG f s (i + 1) = wG f s i := if_neg eb
           have eo : qand (qshr (wO f) i) 1 = 0 := by omega
           have ed : mDone f i := by
             by_cases c : mDone f i
             · exact c
             · have z : qand (qshr (wO f) i) 1 = 1 := hO2.mpr ⟨by omega, c⟩
               omega
           have e1 : wW p f s (i + 1) = wW p f s i * 1 := by
             rw [Int.mul_one]; exact if_pos ed
           have q := ih (i + 1) σ' (by omega) hF (by rw [e2]; exact hT)
           rw [e1] at q
           exact q_locs _ [0, 1, 3, 4, 5, 6, 7, 8, 9] rfl q)
        | (have eb : ¬ bt s i := by assumption
           have e2 : wG f s (i + 1) = wG f s i := if_neg eb
           have eo : bt (wO f) i := hO1.resolve_left (by assumption)
           have ed : ¬ mDone f i := (hO2.mp eo).2
           have e1 : wW p f s (i + 1) = wW p f s i * p := by
             show (if mDone f i then _ else if bt s i then _ else _) = _
             rw [if_neg ed, if_neg eb]
           have q := ih (i + 1) σ' (by omega) hF (by rw [e2]; exact hT)
           rw [e1] at q
           exact q_locs _ [0, 1, 3, 4, 5, 6, 7, 8, 9] rfl q)
        | (have eb : bt s i := by assumption
           have ed := hok i (by omega) eb
           have e2 : wG f s (i + 1) = mDo (wG f s i) i := if_pos eb
           have e1 : wW p f s (i + 1) = wW p f s i * (10 - p) := by
             show (if mDone f i then _ else if bt s i then _ else _) = _
             rw [if_neg ed, if_pos eb]
           have q := ih (i + 1) σ0 (by omega) (hF.tt hF0) (by rw [e2]; exact hT0)
           rw [e1] at q
           exact q_locs _ [0, 1, 3, 4, 5, 6, 7, 8, 9] rfl q)
        | (exfalso
           have eb : bt s i := by assumption
           have z : qand (qshr (wO f) i) 1 = 1 := hob eb
           omega)
      · refine q_lconst1 (pc := 137) dX8_wrong_137 ?_
        refine q_goto (pc := 138) (tgt := 157) dX8_wrong_138 (by decide) ?_
        refine q_lmul (pc := 157) dX8_wrong_157 ?_
        refine q_lstore (pc := 158) dX8_wrong_158 (Nat.le_of_ble_eq_true rfl) ?_
        refine q_iload (pc := 160) dX8_wrong_160 rfl ?_
        refine q_ifeq (pc := 162) (tgt := 174) dX8_wrong_162 (by decide) (by omega) (fun h162 => ?_) (fun h => absurd h (by omega))
        refine q_iinc (pc := 174) dX8_wrong_174 rfl (Nat.le_of_ble_eq_true rfl) ?_
        refine q_goto (pc := 177) (tgt := 97) dX8_wrong_177 (by decide) ?_
        first
        | (have eb : ¬ bt s i := by assumption
           have e2 : wG f s (i + 1) = wG f s i := if_neg eb
           have eo : qand (qshr (wO f) i) 1 = 0 := by omega
           have ed : mDone f i := by
             by_cases c : mDone f i
             · exact c
             · have z : qand (qshr (wO f) i) 1 = 1 := hO2.mpr ⟨by omega, c⟩
               omega
           have e1 : wW p f s (i + 1) = wW p f s i * 1 := by
             rw [Int.mul_one]; exact if_pos ed
           have q := ih (i + 1) σ' (by omega) hF (by rw [e2]; exact hT)
           rw [e1] at q
           exact q_locs _ [0, 1, 3, 4, 5, 6, 7, 8, 9] rfl q)
        | (have eb : ¬ bt s i := by assumption
           have e2 : wG f s (i + 1) = wG f s i := if_neg eb
           have eo : bt (wO f) i := hO1.resolve_left (by assumption)
           have ed : ¬ mDone f i := (hO2.mp eo).2
           have e1 : wW p f s (i + 1) = wW p f s i * p := by
             show (if mDone f i then _ else if bt s i then _ else _) = _
             rw [if_neg ed, if_neg eb]
           have q := ih (i + 1) σ' (by omega) hF (by rw [e2]; exact hT)
           rw [e1] at q
           exact q_locs _ [0, 1, 3, 4, 5, 6, 7, 8, 9] rfl q)
        | (have eb : bt s i := by assumption
           have ed := hok i (by omega) eb
           have e2 : wG f s (i + 1) = mDo (wG f s i) i := if_pos eb
           have e1 : wW p f s (i + 1) = wW p f s i * (10 - p) := by
             show (if mDone f i then _ else if bt s i then _ else _) = _
             rw [if_neg ed, if_pos eb]
           have q := ih (i + 1) σ0 (by omega) (hF.tt hF0) (by rw [e2]; exact hT0)
           rw [e1] at q
           exact q_locs _ [0, 1, 3, 4, 5, 6, 7, 8, 9] rfl q)
        | (exfalso
           have eb : bt s i := by assumption
           have z : qand (qshr (wO f) i) 1 = 1 := hob eb
           omega)
    · refine q_iconst (pc := 119) dX8_wrong_119 ?_
      refine q_goto (pc := 120) (tgt := 124) dX8_wrong_120 (by decide) ?_
      refine q_istore (pc := 124) dX8_wrong_124 (Nat.le_of_ble_eq_true rfl) ?_
      refine q_lload (pc := 126) dX8_wrong_126 rfl ?_
      refine q_iload_n (pc := 128) dX8_wrong_128 rfl ?_
      refine q_iload (pc := 129) dX8_wrong_129 rfl ?_
      refine q_ishr (pc := 131) dX8_wrong_131 ?_
      refine q_iconst (pc := 132) dX8_wrong_132 ?_
      refine q_iand (pc := 133) dX8_wrong_133 ?_
      refine q_ifne (pc := 134) (tgt := 141) dX8_wrong_134 (by decide) (by omega) (fun h134 => ?_) (fun h134 => ?_)
      · refine q_iload (pc := 141) dX8_wrong_141 rfl ?_
        refine q_ifeq (pc := 143) (tgt := 155) dX8_wrong_143 (by decide) (by omega) (fun h => absurd h (by omega)) (fun h143 => ?_)
        refine q_ldc2 (pc := 146) (n := 10) kX8_253 dX8_wrong_146 ?_
        refine q_iload_n (pc := 149) dX8_wrong_149 rfl ?_
        refine q_i2l (pc := 150) dX8_wrong_150 (by omega) ?_
        refine q_lsub (pc := 151) dX8_wrong_151 ?_
        refine q_goto (pc := 152) (tgt := 157) dX8_wrong_152 (by decide) ?_
        refine q_lmul (pc := 157) dX8_wrong_157 ?_
        refine q_lstore (pc := 158) dX8_wrong_158 (Nat.le_of_ble_eq_true rfl) ?_
        refine q_iload (pc := 160) dX8_wrong_160 rfl ?_
        refine q_ifeq (pc := 162) (tgt := 174) dX8_wrong_162 (by decide) (by omega) (fun h => absurd h (by omega)) (fun h162 => ?_)
        refine q_aload_n (pc := 165) dX8_wrong_165 rfl ?_
        refine q_getR (pc := 166) dX8_wrong_166 fX8_25 rfl rfl ?_
        refine q_iload (pc := 169) dX8_wrong_169 rfl ?_
        refine q_S2v (pc := 171) dX8_wrong_171 vX8_202 (Nat.le_of_ble_eq_true rfl) (Nat.le_of_ble_eq_true rfl) (t_X8_does sh88 hT r1 (by omega)) (fun σ1 hc1 => ?_)
        obtain ⟨hF1, hT1, hO1⟩ := hc1
        refine q_iinc (pc := 174) dX8_wrong_174 rfl (Nat.le_of_ble_eq_true rfl) ?_
        refine q_goto (pc := 177) (tgt := 97) dX8_wrong_177 (by decide) ?_
        first
        | (have eb : ¬ bt s i := by assumption
           have e2 : wG f s (i + 1) = wG f s i := if_neg eb
           have eo : qand (qshr (wO f) i) 1 = 0 := by omega
           have ed : mDone f i := by
             by_cases c : mDone f i
             · exact c
             · have z : qand (qshr (wO f) i) 1 = 1 := hO2.mpr ⟨by omega, c⟩
               omega
           have e1 : wW p f s (i + 1) = wW p f s i * 1 := by
             rw [Int.mul_one]; exact if_pos ed
           have q := ih (i + 1) σ' (by omega) hF (by rw [e2]; exact hT)
           rw [e1] at q
           exact q_locs _ [0, 1, 3, 4, 5, 6, 7, 8, 9] rfl q)
        | (have eb : ¬ bt s i := by assumption
           have e2 : wG f s (i + 1) = wG f s i := if_neg eb
           have eo : bt (wO f) i := hO1.resolve_left (by assumption)
           have ed : ¬ mDone f i := (hO2.mp eo).2
           have e1 : wW p f s (i + 1) = wW p f s i * p := by
             show (if mDone f i then _ else if bt s i then _ else _) = _
             rw [if_neg ed, if_neg eb]
           have q := ih (i + 1) σ' (by omega) hF (by rw [e2]; exact hT)
           rw [e1] at q
           exact q_locs _ [0, 1, 3, 4, 5, 6, 7, 8, 9] rfl q)
        | (have eb : bt s i := by assumption
           have ed := hok i (by omega) eb
           have e2 : wG f s (i + 1) = mDo (wG f s i) i := if_pos eb
           have e1 : wW p f s (i + 1) = wW p f s i * (10 - p) := by
             show (if mDone f i then _ else if bt s i then _ else _) = _
             rw [if_neg ed, if_pos eb]
           have q := ih (i + 1) σ1 (by omega) (hF.tt hF1) (by rw [e2]; exact hT1)
           rw [e1] at q
           exact q_locs _ [0, 1, 3, 4, 5, 6, 7, 8, 9] rfl q)
        | (exfalso
           have eb : bt s i := by assumption
           have z : qand (qshr (wO f) i) 1 = 1 := hob eb
           omega)
      · refine q_lconst1 (pc := 137) dX8_wrong_137 ?_
        refine q_goto (pc := 138) (tgt := 157) dX8_wrong_138 (by decide) ?_
        refine q_lmul (pc := 157) dX8_wrong_157 ?_
        refine q_lstore (pc := 158) dX8_wrong_158 (Nat.le_of_ble_eq_true rfl) ?_
        refine q_iload (pc := 160) dX8_wrong_160 rfl ?_
        refine q_ifeq (pc := 162) (tgt := 174) dX8_wrong_162 (by decide) (by omega) (fun h => absurd h (by omega)) (fun h162 => ?_)
        refine q_aload_n (pc := 165) dX8_wrong_165 rfl ?_
        refine q_getR (pc := 166) dX8_wrong_166 fX8_25 rfl rfl ?_
        refine q_iload (pc := 169) dX8_wrong_169 rfl ?_
        refine q_S2v (pc := 171) dX8_wrong_171 vX8_202 (Nat.le_of_ble_eq_true rfl) (Nat.le_of_ble_eq_true rfl) (t_X8_does sh88 hT r1 (by omega)) (fun σ2 hc2 => ?_)
        obtain ⟨hF2, hT2, hO2⟩ := hc2
        refine q_iinc (pc := 174) dX8_wrong_174 rfl (Nat.le_of_ble_eq_true rfl) ?_
        refine q_goto (pc := 177) (tgt := 97) dX8_wrong_177 (by decide) ?_
        first
        | (have eb : ¬ bt s i := by assumption
           have e2 : wG f s (i + 1) = wG f s i := if_neg eb
           have eo : qand (qshr (wO f) i) 1 = 0 := by omega
           have ed : mDone f i := by
             by_cases c : mDone f i
             · exact c
             · have z : qand (qshr (wO f) i) 1 = 1 := hO2.mpr ⟨by omega, c⟩
               omega
           have e1 : wW p f s (i + 1) = wW p f s i * 1 := by
             rw [Int.mul_one]; exact if_pos ed
           have q := ih (i + 1) σ' (by omega) hF (by rw [e2]; exact hT)
           rw [e1] at q
           exact q_locs _ [0, 1, 3, 4, 5, 6, 7, 8, 9] rfl q)
        | (have eb : ¬ bt s i := by assumption
           have e2 : wG f s (i + 1) = wG f s i := if_neg eb
           have eo : bt (wO f) i := hO1.resolve_left (by assumption)
           have ed : ¬ mDone f i := (hO2.mp eo).2
           have e1 : wW p f s (i + 1) = wW p f s i * p := by
             show (if mDone f i then _ else if bt s i then _ else _) = _
             rw [if_neg ed, if_neg eb]
           have q := ih (i + 1) σ' (by omega) hF (by rw [e2]; exact hT)
           rw [e1] at q
           exact q_locs _ [0, 1, 3, 4, 5, 6, 7, 8, 9] rfl q)
        | (have eb : bt s i := by assumption
           have ed := hok i (by omega) eb
           have e2 : wG f s (i + 1) = mDo (wG f s i) i := if_pos eb
           have e1 : wW p f s (i + 1) = wW p f s i * (10 - p) := by
             show (if mDone f i then _ else if bt s i then _ else _) = _
             rw [if_neg ed, if_pos eb]
           have q := ih (i + 1) σ2 (by omega) (hF.tt hF2) (by rw [e2]; exact hT2)
           rw [e1] at q
           exact q_locs _ [0, 1, 3, 4, 5, 6, 7, 8, 9] rfl q)
        | (exfalso
           have eb : bt s i := by assumption
           have z : qand (qshr (wO f) i) 1 = 1 := hob eb
           omega)
theorem m_gcd_l {B p w : Int} {c3 Aa : Int} {Q : Option qV → qM → Prop} : ∀ (b a : Nat), a ≤ 10000000 → b ≤ 10000000 → (∀ x, qE G mX8_wrong d 247 [(10, vl x), (8, vl (Nat.gcd b a : Nat)), (6, vl B), (4, vl Aa), (0, vr 82), (1, vi p), (2, vi w)] [] σ Q) → qE G mX8_wrong d 222 [(10, vl b), (8, vl a), (6, vl B), (4, vl Aa), (0, vr 82), (1, vi p), (2, vi w)] [] σ Q := by
  intro b
  induction b using Nat.strongRecOn with
  | ind b ih =>
    intro a ha hb kk
    have hc := @qcmp_gt (b : Int) 0
    have hc2 := @qcmp_lt (b : Int) 0
    have hc3 := qcmp_in (b : Int) 0
    refine q_lload (pc := 222) dX8_wrong_222 rfl ?_
    refine q_lconst0 (pc := 224) dX8_wrong_224 ?_
    refine q_lcmp (pc := 225) dX8_wrong_225 (by omega) (by omega) ?_
    refine q_ifeq (pc := 226) (tgt := 247) dX8_wrong_226 (by decide) (by omega) (fun h226 => ?_) (fun h226 => ?_)
    · have hz : b = 0 := by omega
      subst hz
      have q := kk 0
      rw [Nat.gcd_zero_left] at q
      exact q
    · refine q_lload (pc := 229) dX8_wrong_229 rfl ?_
      refine q_lload (pc := 231) dX8_wrong_231 rfl ?_
      refine q_lrem (pc := 233) dX8_wrong_233 (by omega) ?_
      refine q_lstore (pc := 234) dX8_wrong_234 (Nat.le_of_ble_eq_true rfl) ?_
      refine q_lload (pc := 236) dX8_wrong_236 rfl ?_
      refine q_lstore (pc := 238) dX8_wrong_238 (Nat.le_of_ble_eq_true rfl) ?_
      refine q_lload (pc := 240) dX8_wrong_240 rfl ?_
      refine q_lstore (pc := 242) dX8_wrong_242 (Nat.le_of_ble_eq_true rfl) ?_
      refine q_goto (pc := 244) (tgt := 222) dX8_wrong_244 (by decide) ?_
      have hz : b ≠ 0 := by
        intro z
        subst z
        omega
      have hl := Nat.mod_lt a (show b > 0 by omega)
      have q := ih (a % b) hl b hb (by omega) (fun x => by rw [← Nat.gcd_rec b a]; exact kk x)
      rw [show (a : Int) % (b : Int) = ((a % b : Nat) : Int) from (Int.natCast_emod a b).symm]
      exact q_locs _ [0, 1, 3, 4, 5, 6, 7] rfl q
theorem m_wrong_l {p w : Int} (hf0 : RwR σ 86 f) (hR : Row f) (h1 : f 0 = 1) (hp : 0 ≤ p ∧ p ≤ 10) (hw : 0 ≤ w ∧ w ≤ 1) : ∀ (m s : Nat) (σ' : qM), m + s = (wO f).toNat + 1 → Fr σ σ' [88] → qE G mX8_wrong (d + 4) 72 [(8, vi s), (6, vl (sB p f (f 5).toNat s)), (4, vl (sA p f (f 5).toNat s)), (3, vi (wO f)), (0, vr 82), (1, vi p), (2, vi w)] [] σ' (rl fun r σ1 => (if w = 0 then wA f p else wB f p) / (Nat.gcd (wB f p).toNat (wA f p).toNat : Int) = r ∧ Fr σ σ1 [88]) := by
  have h5 := hR.de
  have h7 := p2 (m := (f 5).toNat) (by omega)
  have hO := (wO_in hR).1
  have hO2 := hO.2
  rw [pow_c] at hO2
  have hA : 0 ≤ wA f p ∧ wA f p ≤ wB f p := sA_in (p := p) (by omega) f (f 5).toNat (2 ^ (f 5).toNat)
  have hB : wB f p ≤ 10000000 := sB_in (p := p) (by omega) f (m := (f 5).toNat) (by omega) (Nat.le_refl _)
  have hB1 : 1 ≤ wB f p := sB_pos (p := p) f (m := (f 5).toNat) (by omega)
  have eA : ((wA f p).toNat : Int) = wA f p := by omega
  have eB : ((wB f p).toNat : Int) = wB f p := by omega
  have hg := Nat.gcd_pos_of_pos_left (wA f p).toNat (show 0 < (wB f p).toNat by omega)
  have hg2 := Nat.gcd_le_left (wA f p).toNat (show 0 < (wB f p).toNat by omega)
  intro m
  induction m with
  | zero =>
    intro s σ' hm hF
    have es : s = (wO f).toNat + 1 := by omega
    obtain ⟨z1, z2⟩ := s_end hR p
    subst es
    rw [z1, z2]
    refine q_iload (pc := 72) dX8_wrong_72 rfl ?_
    refine q_iload_n (pc := 74) dX8_wrong_74 rfl ?_
    refine q_icmpgt (pc := 75) (tgt := 214) dX8_wrong_75 (by decide) (by omega) (by omega) (fun h75 => ?_) (fun h => absurd h (by omega))
    refine q_lload (pc := 214) dX8_wrong_214 rfl ?_
    refine q_lstore (pc := 216) dX8_wrong_216 (Nat.le_of_ble_eq_true rfl) ?_
    refine q_lload (pc := 218) dX8_wrong_218 rfl ?_
    refine q_lstore (pc := 220) dX8_wrong_220 (Nat.le_of_ble_eq_true rfl) ?_
    rw [← eA, ← eB]
    refine q_locs _ [0, 1, 2, 3, 5, 6, 7] rfl (m_gcd_l (c3 := 0) (wB f p).toNat (wA f p).toNat (by omega) (by omega) (fun x => ?_))
    refine q_iload_n (pc := 247) dX8_wrong_247 rfl ?_
    refine q_ifne (pc := 248) (tgt := 256) dX8_wrong_248 (by decide) (by omega) (fun h248 => ?_) (fun h248 => ?_)
    · refine q_lload (pc := 256) dX8_wrong_256 rfl ?_
      refine q_lload (pc := 258) dX8_wrong_258 rfl ?_
      refine q_ldiv (pc := 260) dX8_wrong_260 (by omega) ?_
      refine q_rl (pc := 261) dX8_wrong_261 rfl ?_
      refine ⟨?_, hF⟩
      simp only [eA, eB]
      first
      | (rw [if_pos (by omega)]; done)
      | (rw [if_neg (by omega)]; done)
    · refine q_lload (pc := 251) dX8_wrong_251 rfl ?_
      refine q_goto (pc := 253) (tgt := 258) dX8_wrong_253 (by decide) ?_
      refine q_lload (pc := 258) dX8_wrong_258 rfl ?_
      refine q_ldiv (pc := 260) dX8_wrong_260 (by omega) ?_
      refine q_rl (pc := 261) dX8_wrong_261 rfl ?_
      refine ⟨?_, hF⟩
      simp only [eA, eB]
      first
      | (rw [if_pos (by omega)]; done)
      | (rw [if_neg (by omega)]; done)
  | succ m ih =>
    intro s σ' hm hF
    have hf := hf0.fr hF (by simp)
    have hok := (wok_m hR (s := s) (by omega)).1
    have hqi := qand_in s (qxor (wO f) (-1))
    obtain ⟨r1, r2⟩ := wG_row hR s (f 5).toNat (by omega)
    have hl := hR.law h1
    have r12 := r2 1 (by omega)
    have r22 := r2 2 (by omega)
    refine q_iload (pc := 72) dX8_wrong_72 rfl ?_
    refine q_iload_n (pc := 74) dX8_wrong_74 rfl ?_
    refine q_icmpgt (pc := 75) (tgt := 214) dX8_wrong_75 (by decide) (by omega) (by omega) (fun h => absurd h (by omega)) (fun h75 => ?_)
    refine q_iload (pc := 78) dX8_wrong_78 rfl ?_
    refine q_iload_n (pc := 80) dX8_wrong_80 rfl ?_
    refine q_iconst (pc := 81) dX8_wrong_81 ?_
    refine q_ixor (pc := 82) dX8_wrong_82 ?_
    refine q_iand (pc := 83) dX8_wrong_83 ?_
    refine q_ifne (pc := 84) (tgt := 208) dX8_wrong_84 (by decide) (by omega) (fun h84 => ?_) (fun h84 => ?_)
    · refine q_iinc (pc := 208) dX8_wrong_208 rfl (Nat.le_of_ble_eq_true rfl) ?_
      refine q_goto (pc := 211) (tgt := 72) dX8_wrong_211 (by decide) ?_
      first
      | (have hn : ¬ wok f s (f 5).toNat := fun z => absurd (hok.mpr z) (by assumption)
         have e : sA p f (f 5).toNat (s + 1) = sA p f (f 5).toNat s := by
           show _ + (if wok f s (f 5).toNat ∧ _ then _ else 0) = _
           rw [if_neg (fun z => hn z.1), Int.add_zero]
         have e2 : sB p f (f 5).toNat (s + 1) = sB p f (f 5).toNat s := by
           show _ + (if wok f s (f 5).toNat then _ else 0) = _
           rw [if_neg hn, Int.add_zero]
         have q := ih (s + 1) σ' (by omega) hF
         rw [e, e2] at q
         exact q_locs _ [0, 1, 2, 3, 4, 5, 6] rfl q)
      | (have e : sA p f (f 5).toNat (s + 1) = sA p f (f 5).toNat s + 0 := by
           show _ + (if wok f s (f 5).toNat ∧ _ then _ else 0) = _
           rw [if_neg (fun z => absurd z.2 (by assumption))]
         have e2 : sB p f (f 5).toNat (s + 1) = sB p f (f 5).toNat s + wW p f s (f 5).toNat := by
           show _ + (if wok f s (f 5).toNat then _ else 0) = _
           rw [if_pos hwk]
         have q := ih (s + 1) τ (by omega) (hF.tt hFt)
         rw [e, e2] at q
         exact q_locs _ [0, 1, 2, 3, 4, 5, 6] rfl q)
      | (have e : sA p f (f 5).toNat (s + 1) = sA p f (f 5).toNat s + wW p f s (f 5).toNat := by
           show _ + (if wok f s (f 5).toNat ∧ _ then _ else 0) = _
           rw [if_pos ⟨hwk, by assumption⟩]
         have e2 : sB p f (f 5).toNat (s + 1) = sB p f (f 5).toNat s + wW p f s (f 5).toNat := by
           show _ + (if wok f s (f 5).toNat then _ else 0) = _
           rw [if_pos hwk]
         have q := ih (s + 1) τ (by omega) (hF.tt hFt)
         rw [e, e2] at q
         exact q_locs _ [0, 1, 2, 3, 4, 5, 6] rfl q)
    · refine q_lconst1 (pc := 87) dX8_wrong_87 ?_
      refine q_lstore (pc := 88) dX8_wrong_88 (Nat.le_of_ble_eq_true rfl) ?_
      refine q_aload_n (pc := 90) dX8_wrong_90 rfl ?_
      refine q_V0v (pc := 91) dX8_wrong_91 vX8_216 rfl rfl (Nat.le_of_ble_eq_true rfl) (Nat.le_of_ble_eq_true rfl) (t_X8_layThen hf) (fun σ1 hc1 => ?_)
      obtain ⟨hF1, hT1⟩ := hc1
      refine q_iconst (pc := 94) dX8_wrong_94 ?_
      refine q_istore (pc := 95) dX8_wrong_95 (Nat.le_of_ble_eq_true rfl) ?_
      have hwk : wok f s (f 5).toNat := hok.mp (by omega)
      refine q_locs _ [0, 1, 2, 3, 4, 5, 6, 7, 8] rfl (m_case_in (σ := σ1) (hf.fr hF1 (by simp)) hR h1 (by omega) hwk hp (fun τ x hF2 hT2 => ?_) (f 5).toNat 0 σ1 (by omega) Fr.rf hT1)
      have hFt : Fr σ' τ [88] := hF1.tt hF2
      refine q_lload (pc := 180) dX8_wrong_180 rfl ?_
      refine q_lload (pc := 182) dX8_wrong_182 rfl ?_
      refine q_ladd (pc := 184) dX8_wrong_184 ?_
      refine q_lstore (pc := 185) dX8_wrong_185 (Nat.le_of_ble_eq_true rfl) ?_
      refine q_lload (pc := 187) dX8_wrong_187 rfl ?_
      refine q_aload_n (pc := 189) dX8_wrong_189 rfl ?_
      refine q_getR (pc := 190) dX8_wrong_190 fX8_25 rfl rfl ?_
      refine q_S1i (pc := 193) dX8_wrong_193 vX8_210 (Nat.le_of_ble_eq_true rfl) (Nat.le_of_ble_eq_true rfl) (t_X8_isLevel sh88 hT2 r1.1 (by omega) (by omega)) (fun r2 σ2 hc2 => ?_)
      obtain ⟨rfl, rfl⟩ := hc2
      refine q_ifeqb (pc := 196) (tgt := 204) dX8_wrong_196 (by decide) (fun h196 => ?_) (fun h196 => ?_)
      · refine q_lconst0 (pc := 204) dX8_wrong_204 ?_
        refine q_ladd (pc := 205) dX8_wrong_205 ?_
        refine q_lstore (pc := 206) dX8_wrong_206 (Nat.le_of_ble_eq_true rfl) ?_
        refine q_iinc (pc := 208) dX8_wrong_208 rfl (Nat.le_of_ble_eq_true rfl) ?_
        refine q_goto (pc := 211) (tgt := 72) dX8_wrong_211 (by decide) ?_
        first
        | (have hn : ¬ wok f s (f 5).toNat := fun z => absurd (hok.mpr z) (by assumption)
           have e : sA p f (f 5).toNat (s + 1) = sA p f (f 5).toNat s := by
             show _ + (if wok f s (f 5).toNat ∧ _ then _ else 0) = _
             rw [if_neg (fun z => hn z.1), Int.add_zero]
           have e2 : sB p f (f 5).toNat (s + 1) = sB p f (f 5).toNat s := by
             show _ + (if wok f s (f 5).toNat then _ else 0) = _
             rw [if_neg hn, Int.add_zero]
           have q := ih (s + 1) σ' (by omega) hF
           rw [e, e2] at q
           exact q_locs _ [3, 4, 0, 2, 1, 5, 6, 7, 8] rfl q)
        | (have e : sA p f (f 5).toNat (s + 1) = sA p f (f 5).toNat s + 0 := by
             show _ + (if wok f s (f 5).toNat ∧ _ then _ else 0) = _
             rw [if_neg (fun z => absurd z.2 (by assumption))]
           have e2 : sB p f (f 5).toNat (s + 1) = sB p f (f 5).toNat s + wW p f s (f 5).toNat := by
             show _ + (if wok f s (f 5).toNat then _ else 0) = _
             rw [if_pos hwk]
           have q := ih (s + 1) τ (by omega) (hF.tt hFt)
           rw [e, e2] at q
           exact q_locs _ [0, 2, 1, 5, 6, 7, 8] rfl q)
        | (have e : sA p f (f 5).toNat (s + 1) = sA p f (f 5).toNat s + wW p f s (f 5).toNat := by
             show _ + (if wok f s (f 5).toNat ∧ _ then _ else 0) = _
             rw [if_pos ⟨hwk, by assumption⟩]
           have e2 : sB p f (f 5).toNat (s + 1) = sB p f (f 5).toNat s + wW p f s (f 5).toNat := by
             show _ + (if wok f s (f 5).toNat then _ else 0) = _
             rw [if_pos hwk]
           have q := ih (s + 1) τ (by omega) (hF.tt hFt)
           rw [e, e2] at q
           exact q_locs _ [0, 2, 1, 5, 6, 7, 8] rfl q)
      · refine q_lload (pc := 199) dX8_wrong_199 rfl ?_
        refine q_goto (pc := 201) (tgt := 205) dX8_wrong_201 (by decide) ?_
        refine q_ladd (pc := 205) dX8_wrong_205 ?_
        refine q_lstore (pc := 206) dX8_wrong_206 (Nat.le_of_ble_eq_true rfl) ?_
        refine q_iinc (pc := 208) dX8_wrong_208 rfl (Nat.le_of_ble_eq_true rfl) ?_
        refine q_goto (pc := 211) (tgt := 72) dX8_wrong_211 (by decide) ?_
        first
        | (have hn : ¬ wok f s (f 5).toNat := fun z => absurd (hok.mpr z) (by assumption)
           have e : sA p f (f 5).toNat (s + 1) = sA p f (f 5).toNat s := by
             show _ + (if wok f s (f 5).toNat ∧ _ then _ else 0) = _
             rw [if_neg (fun z => hn z.1), Int.add_zero]
           have e2 : sB p f (f 5).toNat (s + 1) = sB p f (f 5).toNat s := by
             show _ + (if wok f s (f 5).toNat then _ else 0) = _
             rw [if_neg hn, Int.add_zero]
           have q := ih (s + 1) σ' (by omega) hF
           rw [e, e2] at q
           exact q_locs _ [3, 4, 0, 2, 1, 5, 6, 7, 8] rfl q)
        | (have e : sA p f (f 5).toNat (s + 1) = sA p f (f 5).toNat s + 0 := by
             show _ + (if wok f s (f 5).toNat ∧ _ then _ else 0) = _
             rw [if_neg (fun z => absurd z.2 (by assumption))]
           have e2 : sB p f (f 5).toNat (s + 1) = sB p f (f 5).toNat s + wW p f s (f 5).toNat := by
             show _ + (if wok f s (f 5).toNat then _ else 0) = _
             rw [if_pos hwk]
           have q := ih (s + 1) τ (by omega) (hF.tt hFt)
           rw [e, e2] at q
           exact q_locs _ [0, 2, 1, 5, 6, 7, 8] rfl q)
        | (have e : sA p f (f 5).toNat (s + 1) = sA p f (f 5).toNat s + wW p f s (f 5).toNat := by
             show _ + (if wok f s (f 5).toNat ∧ _ then _ else 0) = _
             rw [if_pos ⟨hwk, by assumption⟩]
           have e2 : sB p f (f 5).toNat (s + 1) = sB p f (f 5).toNat s + wW p f s (f 5).toNat := by
             show _ + (if wok f s (f 5).toNat then _ else 0) = _
             rw [if_pos hwk]
           have q := ih (s + 1) τ (by omega) (hF.tt hFt)
           rw [e, e2] at q
           exact q_locs _ [0, 2, 1, 5, 6, 7, 8] rfl q)
theorem m_wrong {p w : Int} (hM : MR σ A) (hV : AV A) (hp : -2147483648 ≤ p ∧ p ≤ 2147483647) (hw : -2147483648 ≤ w ∧ w ≤ 2147483647) : qE G mX8_wrong (d + 4) 0 [(0, vr 82), (1, vi p), (2, vi w)] [] σ (rl (pM σ (s_wrong A p w))) := by
  have hR := hV.1
  have h01 := hR.f0
  have hO := (wO_in hR).1
  refine q_aload_n (pc := 0) dX8_wrong_0 rfl ?_
  refine q_iconst (pc := 1) dX8_wrong_1 ?_
  refine q_pI (pc := 2) 0 dX8_wrong_2 wX8_50 rfl rfl rfl ?_
  have hM := hM.fld (i := 0) (v := 0) (by decide)
  have hF0 : ∀ j, j < 82 → up σ 82 0 0 j = σ j := fun j hj => up_ne (by omega)
  generalize up σ 82 0 0 = τ at hM hF0 ⊢
  have e5 := hM.1 5 (by omega) (by omega)
  have e6 := hM.1 6 (by omega) (by omega)
  refine q_aload_n (pc := 5) dX8_wrong_5 rfl ?_
  refine q_V0i (pc := 6) dX8_wrong_6 vX8_184 rfl rfl (Nat.le_of_ble_eq_true rfl) (Nat.le_of_ble_eq_true rfl) (t_X8_isThere hM.1 h01) (fun r1 σ1 hc1 => ?_)
  obtain ⟨rfl, rfl⟩ := hc1
  refine q_ifneb (pc := 9) (tgt := 16) dX8_wrong_9 (by decide) (fun h9 => ?_) (fun h9 => ?_)
  · refine q_iload_n (pc := 16) dX8_wrong_16 rfl ?_
    refine q_i2l (pc := 17) dX8_wrong_17 (by omega) ?_
    refine q_lconst0 (pc := 18) dX8_wrong_18 ?_
    refine q_ldc2 (pc := 19) (n := 10) kX8_253 dX8_wrong_19 ?_
    refine q_S3i (pc := 22) dX8_wrong_22 vX8_60 (Nat.le_of_ble_eq_true rfl) (Nat.le_of_ble_eq_true rfl) (t_X8_in (by omega) (by omega) (by omega)) (fun r2 σ2 hc2 => ?_)
    obtain ⟨rfl, rfl⟩ := hc2
    refine q_ifeqb (pc := 25) (tgt := 38) dX8_wrong_25 (by decide) (fun h25 => ?_) (fun h25 => ?_)
    · refine q_ldc2 (pc := 38) (n := -1000001) kX8_255 dX8_wrong_38 ?_
      refine q_rl (pc := 41) dX8_wrong_41 rfl ?_
      refine pM.q0 hF0 hM ?_
      repeat' (first | rw [if_neg (by omega)] | rw [if_pos (by omega)])
    · refine q_iload_n (pc := 28) dX8_wrong_28 rfl ?_
      refine q_i2l (pc := 29) dX8_wrong_29 (by omega) ?_
      refine q_lconst0 (pc := 30) dX8_wrong_30 ?_
      refine q_lconst1 (pc := 31) dX8_wrong_31 ?_
      refine q_S3i (pc := 32) dX8_wrong_32 vX8_60 (Nat.le_of_ble_eq_true rfl) (Nat.le_of_ble_eq_true rfl) (t_X8_in (by omega) (by omega) (by omega)) (fun r3 σ3 hc3 => ?_)
      obtain ⟨rfl, rfl⟩ := hc3
      refine q_ifneb (pc := 35) (tgt := 42) dX8_wrong_35 (by decide) (fun h35 => ?_) (fun h35 => ?_)
      · refine q_iconst (pc := 42) dX8_wrong_42 ?_
        refine q_aload_n (pc := 43) dX8_wrong_43 rfl ?_
        refine q_getR (pc := 44) dX8_wrong_44 fX8_19 rfl rfl ?_
        refine q_iconst (pc := 47) dX8_wrong_47 ?_
        refine q_iald (pc := 48) dX8_wrong_48 rfl (by omega) ?_
        refine q_ishl (pc := 49) dX8_wrong_49 ?_
        refine q_iconst (pc := 50) dX8_wrong_50 ?_
        refine q_isub (pc := 51) dX8_wrong_51 ?_
        refine q_aload_n (pc := 52) dX8_wrong_52 rfl ?_
        refine q_getR (pc := 53) dX8_wrong_53 fX8_19 rfl rfl ?_
        refine q_bipush (pc := 56) dX8_wrong_56 (by decide +kernel) ?_
        refine q_iald (pc := 58) dX8_wrong_58 rfl (by omega) ?_
        refine q_iconst (pc := 59) dX8_wrong_59 ?_
        refine q_ixor (pc := 60) dX8_wrong_60 ?_
        refine q_iand (pc := 61) dX8_wrong_61 ?_
        rw [e5, e6, show qand (qshl 1 (A.1 5) - 1) (qxor (A.1 6) (-1)) = wO A.1 from rfl]
        refine q_istore_n (pc := 62) dX8_wrong_62 (Nat.le_of_ble_eq_true rfl) ?_
        refine q_lconst0 (pc := 63) dX8_wrong_63 ?_
        refine q_lstore (pc := 64) dX8_wrong_64 (Nat.le_of_ble_eq_true rfl) ?_
        refine q_lconst0 (pc := 66) dX8_wrong_66 ?_
        refine q_lstore (pc := 67) dX8_wrong_67 (Nat.le_of_ble_eq_true rfl) ?_
        refine q_iconst (pc := 69) dX8_wrong_69 ?_
        refine q_istore (pc := 70) dX8_wrong_70 (Nat.le_of_ble_eq_true rfl) ?_
        refine q_locs _ [0, 1, 2, 3, 4, 5, 6] rfl (q_mono (fun v σ' h => ?_) (m_wrong_l hM.1 hR (by omega) (by omega) (by omega) ((wO A.1).toNat + 1) 0 τ rfl Fr.rf))
        obtain ⟨x, h1, h2, h3⟩ := h
        refine ⟨x, h1, pM.q hF0 hM h3 (scr_im (by decide)) ?_⟩
        rw [if_pos (by omega), if_pos (by omega)]
        exact h2
      · refine q_ldc2 (pc := 38) (n := -1000001) kX8_255 dX8_wrong_38 ?_
        refine q_rl (pc := 41) dX8_wrong_41 rfl ?_
        refine pM.q0 hF0 hM ?_
        repeat' (first | rw [if_neg (by omega)] | rw [if_pos (by omega)])
  · refine q_ldc2 (pc := 12) (n := -1000002) kX8_251 dX8_wrong_12 ?_
    refine q_rl (pc := 15) dX8_wrong_15 rfl ?_
    refine pM.q0 hF0 hM ?_
    repeat' (first | rw [if_neg (by omega)] | rw [if_pos (by omega)])
end T8
