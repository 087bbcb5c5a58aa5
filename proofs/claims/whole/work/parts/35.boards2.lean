/-! ===== the reference: boards ===== -/
section T8
variable {G : qGl} {d : Nat} {σ : qM} {A : qA} {f : Int → Int}
theorem RwR.congr {k : Nat} {f g : Int → Int} (h : RwR σ k f) (e : ∀ j, 0 ≤ j → j < 34 → g j = f j) : RwR σ k g := fun j a b => by rw [e j a b]; exact h j a b
theorem m_boards_bit {n w k i w7 c6 c4 c3 x : Int} {g : Int → Int} {Q : Option qV → qM → Prop} (hi : 0 ≤ i ∧ i ≤ 2) (hT : RwR σ 88 g) (hg : -10 ≤ g (10 + i) ∧ g (10 + i) ≤ 9) (hx : qand (qshr k (4 - 2 * i)) 3 = x) (hx3 : 0 ≤ x ∧ x ≤ 3) (h7 : w7 = 0 ∨ w7 = 1)
    (kk : ∀ σ1 w', Fr σ σ1 [88] → RwR σ1 88 (u1 g (10 + i) (g (10 + i) - x)) → (w' = 0 ∨ w' = 1) → (w' = 1 ↔ w7 = 1 ∧ x ≤ g (10 + i)) → qE G mX8_boards d 106 [(8, vi (i + 1)), (7, vi w'), (6, vi c6), (5, vi k), (4, vi c4), (3, vi c3), (0, vr 82), (1, vi n), (2, vi w)] [] σ1 Q) : qE G mX8_boards d 106 [(8, vi i), (7, vi w7), (6, vi c6), (5, vi k), (4, vi c4), (3, vi c3), (0, vr 82), (1, vi n), (2, vi w)] [] σ Q := by
  have e : σ 88 (10 + i) = g (10 + i) := hT (10 + i) (by omega) (by omega)
  have e2 : up σ 88 (10 + i) (σ 88 (10 + i) - qand (qshr k (4 - 2 * i)) 3) 88 (10 + i) = g (10 + i) - x := by rw [up_same, if_pos rfl, e, hx]
  have hT2 : RwR (up σ 88 (10 + i) (σ 88 (10 + i) - qand (qshr k (4 - 2 * i)) 3)) 88 (u1 g (10 + i) (g (10 + i) - x)) := by rw [e, hx]; exact RwR.up hT
  refine q_iload (pc := 106) dX8_boards_106 rfl ?_
  refine q_iconst (pc := 108) dX8_boards_108 ?_
  refine q_icmpge (pc := 109) (tgt := 167) dX8_boards_109 (by decide) (by omega) (by omega) (fun h => absurd h (by omega)) (fun h109 => ?_)
  refine q_aload_n (pc := 112) dX8_boards_112 rfl ?_
  refine q_getR (pc := 113) dX8_boards_113 fX8_25 rfl rfl ?_
  refine q_bipush (pc := 116) dX8_boards_116 (by decide +kernel) ?_
  refine q_iload (pc := 118) dX8_boards_118 rfl ?_
  refine q_iadd (pc := 120) dX8_boards_120 ?_
  refine q_dup2 (pc := 121) dX8_boards_121 rfl rfl ?_
  refine q_iald (pc := 122) dX8_boards_122 rfl (by omega) ?_
  refine q_iload (pc := 123) dX8_boards_123 rfl ?_
  refine q_iconst (pc := 125) dX8_boards_125 ?_
  refine q_iconst (pc := 126) dX8_boards_126 ?_
  refine q_iload (pc := 127) dX8_boards_127 rfl ?_
  refine q_imul (pc := 129) dX8_boards_129 ?_
  refine q_isub (pc := 130) dX8_boards_130 ?_
  refine q_ishr (pc := 131) dX8_boards_131 ?_
  refine q_iconst (pc := 132) dX8_boards_132 ?_
  refine q_iand (pc := 133) dX8_boards_133 ?_
  refine q_isub (pc := 134) dX8_boards_134 ?_
  refine q_iast (pc := 135) dX8_boards_135 rfl (by omega) ?_
  refine q_iload (pc := 136) dX8_boards_136 rfl ?_
  refine q_ifeq (pc := 138) (tgt := 158) dX8_boards_138 (by decide) (by omega) (fun h138 => ?_) (fun h138 => ?_)
  · refine q_iconst (pc := 158) dX8_boards_158 ?_
    refine q_istore (pc := 159) dX8_boards_159 (Nat.le_of_ble_eq_true rfl) ?_
    refine q_iinc (pc := 161) dX8_boards_161 rfl (Nat.le_of_ble_eq_true rfl) ?_
    refine q_goto (pc := 164) (tgt := 106) dX8_boards_164 (by decide) ?_
    first
    | exact q_locs _ [0, 1, 2, 3, 4, 5, 6, 7, 8] rfl (kk _ 0 (Fr.up (by simp)) hT2 (by omega) (by omega))
    | exact q_locs _ [0, 1, 2, 3, 4, 5, 6, 7, 8] rfl (kk _ 1 (Fr.up (by simp)) hT2 (by omega) (by omega))
  · refine q_aload_n (pc := 141) dX8_boards_141 rfl ?_
    refine q_getR (pc := 142) dX8_boards_142 fX8_25 rfl rfl ?_
    refine q_bipush (pc := 145) dX8_boards_145 (by decide +kernel) ?_
    refine q_iload (pc := 147) dX8_boards_147 rfl ?_
    refine q_iadd (pc := 149) dX8_boards_149 ?_
    refine q_iald (pc := 150) dX8_boards_150 rfl (by omega) ?_
    refine q_iflt (pc := 151) (tgt := 158) dX8_boards_151 (by decide) (by omega) (fun h151 => ?_) (fun h151 => ?_)
    · refine q_iconst (pc := 158) dX8_boards_158 ?_
      refine q_istore (pc := 159) dX8_boards_159 (Nat.le_of_ble_eq_true rfl) ?_
      refine q_iinc (pc := 161) dX8_boards_161 rfl (Nat.le_of_ble_eq_true rfl) ?_
      refine q_goto (pc := 164) (tgt := 106) dX8_boards_164 (by decide) ?_
      first
      | exact q_locs _ [0, 1, 2, 3, 4, 5, 6, 7, 8] rfl (kk _ 0 (Fr.up (by simp)) hT2 (by omega) (by omega))
      | exact q_locs _ [0, 1, 2, 3, 4, 5, 6, 7, 8] rfl (kk _ 1 (Fr.up (by simp)) hT2 (by omega) (by omega))
    · refine q_iconst (pc := 154) dX8_boards_154 ?_
      refine q_goto (pc := 155) (tgt := 159) dX8_boards_155 (by decide) ?_
      refine q_istore (pc := 159) dX8_boards_159 (Nat.le_of_ble_eq_true rfl) ?_
      refine q_iinc (pc := 161) dX8_boards_161 rfl (Nat.le_of_ble_eq_true rfl) ?_
      refine q_goto (pc := 164) (tgt := 106) dX8_boards_164 (by decide) ?_
      first
      | exact q_locs _ [0, 1, 2, 3, 4, 5, 6, 7, 8] rfl (kk _ 0 (Fr.up (by simp)) hT2 (by omega) (by omega))
      | exact q_locs _ [0, 1, 2, 3, 4, 5, 6, 7, 8] rfl (kk _ 1 (Fr.up (by simp)) hT2 (by omega) (by omega))
theorem m_boards_b {n w w7 c4 c3 : Int} {k : Nat} {Q : Option qV → qM → Prop} (hf : RwR σ 86 f) (hR : Row f) (h1 : f 0 = 1) (hn : 1 ≤ n ∧ n ≤ 24) (hk : k < 64) (h7 : w7 = 0 ∨ w7 = 1)
    (kk : ∀ σ1 (b : Int), Fr σ σ1 [88] → (b = 0 ∨ b = 1) → (b = 1 ↔ w7 = 1 ∧ ((k : Int) / 16 ≤ f 10 ∧ (k : Int) / 4 % 4 ≤ f 11 ∧ (k : Int) % 4 ≤ f 12) ∧ mLevel (mHours n.toNat (mB3 f ((k : Int) / 16) ((k : Int) / 4 % 4) ((k : Int) % 4)))) → qE G mX8_boards (d + 4) 215 [(5, vi k), (4, vi (if b = 1 then (k : Int) / 16 + (k : Int) / 4 % 4 + (k : Int) % 4 else c4)), (3, vi (if b = 1 then (k : Int) else c3)), (0, vr 82), (1, vi n), (2, vi w)] [] σ1 Q) :
    qE G mX8_boards (d + 4) 99 [(7, vi w7), (6, vi ((k : Int) / 16 + (k : Int) / 4 % 4 + (k : Int) % 4)), (5, vi k), (4, vi c4), (3, vi c3), (0, vr 82), (1, vi n), (2, vi w)] [] σ Q := by
  have hO := hR.1
  obtain ⟨o1, o2, o3, o4, o5, o6⟩ := hO
  have hO := hR.1
  obtain ⟨w1, w2, w3, w4, w5⟩ := way_n (k := k) (by omega)
  have hl := hR.law h1
  have h4 := hR.2.1
  have y0 : qand (qshr k (4 - 2 * 0)) 3 = (k : Int) / 16 := w2
  have y1 : qand (qshr k (4 - 2 * 1)) 3 = (k : Int) / 4 % 4 := w3
  have y2 : qand (qshr k (4 - 2 * 2)) 3 = (k : Int) % 4 := w5
  refine q_aload_n (pc := 99) dX8_boards_99 rfl ?_
  refine q_V0v (pc := 100) dX8_boards_100 vX8_216 rfl rfl (Nat.le_of_ble_eq_true rfl) (Nat.le_of_ble_eq_true rfl) (t_X8_layThen hf) (fun σ1 hc1 => ?_)
  obtain ⟨hF1, hT1⟩ := hc1
  refine q_iconst (pc := 103) dX8_boards_103 ?_
  refine q_istore (pc := 104) dX8_boards_104 (Nat.le_of_ble_eq_true rfl) ?_
  refine q_locs _ [0, 1, 2, 3, 4, 5, 6, 7, 8] rfl (m_boards_bit (i := 0) (by omega) hT1 (by show -10 ≤ f 10 ∧ f 10 ≤ 9; omega) y0 (by omega) h7 (fun τ0 b0 hF0 hT0 hb0 hi0 => ?_))
  refine m_boards_bit (i := 0 + 1) (by omega) hT0 (by show -10 ≤ f 11 ∧ f 11 ≤ 9; omega) y1 (by omega) hb0 (fun τ1 b1 hF1' hT1' hb1 hi1 => ?_)
  refine m_boards_bit (i := 0 + 1 + 1) (by omega) hT1' (by show -10 ≤ f 12 ∧ f 12 ≤ 9; omega) y2 (by omega) hb1 (fun τ2 b2 hF2' hT2' hb2 hi2 => ?_)
  have hTt : RwR τ2 88 (mB3 f ((k : Int) / 16) ((k : Int) / 4 % 4) ((k : Int) % 4)) := hT2'
  have hi0 : b0 = 1 ↔ w7 = 1 ∧ (k : Int) / 16 ≤ f 10 := hi0
  have hi1 : b1 = 1 ↔ b0 = 1 ∧ (k : Int) / 4 % 4 ≤ f 11 := hi1
  have hi2 : b2 = 1 ↔ b1 = 1 ∧ (k : Int) % 4 ≤ f 12 := hi2
  have hFt : Fr σ τ2 [88] := ((hF1.tt hF0).tt hF1').tt hF2'
  clear hT2' hT1' hT0
  refine q_iload (pc := 106) dX8_boards_106 rfl ?_
  refine q_iconst (pc := 108) dX8_boards_108 ?_
  refine q_icmpge (pc := 109) (tgt := 167) dX8_boards_109 (by decide) (by omega) (by omega) (fun h109 => ?_) (fun h => absurd h (by omega))
  refine q_iload (pc := 167) dX8_boards_167 rfl ?_
  refine q_ifeq (pc := 169) (tgt := 215) dX8_boards_169 (by decide) (by omega) (fun h169 => ?_) (fun h169 => ?_)
  · first
    | contradiction
    | (have q := kk τ2 0 hFt (Or.inl rfl) ⟨fun z => absurd z (by decide), fun z => absurd ((show b2 = 1 from hi2.mpr ⟨hi1.mpr ⟨hi0.mpr ⟨z.1, z.2.1.1⟩, z.2.1.2.1⟩, z.2.1.2.2⟩).symm.trans h169) (by decide)⟩
       rw [if_neg (by decide), if_neg (by decide)] at q
       exact q_locs _ [3, 4, 5, 6, 7, 8] rfl q)
    | (have q := kk σ0 0 (hFt.tt hF0) (Or.inl rfl) ⟨fun z => absurd z (by decide), fun z => absurd z.2.2 (by assumption)⟩
       rw [if_neg (by decide), if_neg (by decide)] at q
       exact q_locs _ [3, 4, 5, 6, 7, 8] rfl q)
    | (have hb := hi2.mp (hb2.resolve_left h169)
       have hc := hi1.mp hb.1
       have he := hi0.mp hc.1
       have q := kk σ0 1 (hFt.tt hF0) (Or.inr rfl) ⟨fun z => ⟨he.1, ⟨he.2, hc.2, hb.2⟩, by assumption⟩, fun z => rfl⟩
       rw [if_pos rfl, if_pos rfl] at q
       exact q_locs _ [3, 4, 5, 6, 7, 8] rfl q)
  · have hg : mOk (mB3 f ((k : Int) / 16) ((k : Int) / 4 % 4) ((k : Int) % 4)) := mB3_ok hO (by omega) (by omega) (by omega)
    have hl3 : mB3 f ((k : Int) / 16) ((k : Int) / 4 % 4) ((k : Int) % 4) 3 = f 3 := mB3_o _ _ _ _ (by omega)
    have hl4 : mB3 f ((k : Int) / 16) ((k : Int) / 4 % 4) ((k : Int) % 4) 4 = f 4 := mB3_o _ _ _ _ (by omega)
    have hl1 : mHours n.toNat (mB3 f ((k : Int) / 16) ((k : Int) / 4 % 4) ((k : Int) % 4)) 1 = f 1 := (mHours_o _ (by omega) _).trans (mB3_o _ _ _ _ (by omega))
    have hl2 : mHours n.toNat (mB3 f ((k : Int) / 16) ((k : Int) / 4 % 4) ((k : Int) % 4)) 2 = f 2 := (mHours_o _ (by omega) _).trans (mB3_o _ _ _ _ (by omega))
    refine q_aload_n (pc := 172) dX8_boards_172 rfl ?_
    refine q_getR (pc := 173) dX8_boards_173 fX8_25 rfl rfl ?_
    refine q_iload_n (pc := 176) dX8_boards_176 rfl ?_
    refine q_S2v (pc := 177) dX8_boards_177 vX8_219 (Nat.le_of_ble_eq_true rfl) (Nat.le_of_ble_eq_true rfl) (t_X8_hoursOf sh88 hTt (by omega) (by omega) hg (by omega)) (fun σ2 hc2 => ?_)
    obtain ⟨hF2, hT2⟩ := hc2
    refine q_aload_n (pc := 180) dX8_boards_180 rfl ?_
    refine q_getR (pc := 181) dX8_boards_181 fX8_25 rfl rfl ?_
    refine q_S1i (pc := 184) dX8_boards_184 vX8_210 (Nat.le_of_ble_eq_true rfl) (Nat.le_of_ble_eq_true rfl) (t_X8_isLevel sh88 hT2 (mHours_ok hg _) (by omega) (by omega)) (fun r3 σ3 hc3 => ?_)
    obtain ⟨rfl, rfl⟩ := hc3
    refine q_istore (pc := 187) dX8_boards_187 (Nat.le_of_ble_eq_true rfl) ?_
    refine q_iload (pc := 189) dX8_boards_189 rfl ?_
    refine q_ifeqb (pc := 191) (tgt := 199) dX8_boards_191 (by decide) (fun h191 => ?_) (fun h191 => ?_)
    · refine q_iload_n (pc := 199) dX8_boards_199 rfl ?_
      refine q_istore_n (pc := 200) dX8_boards_200 (Nat.le_of_ble_eq_true rfl) ?_
      refine q_iload (pc := 201) dX8_boards_201 rfl ?_
      refine q_ifeqb (pc := 203) (tgt := 211) dX8_boards_203 (by decide) (fun h203 => ?_) (fun h203 => ?_)
      · refine q_iload (pc := 211) dX8_boards_211 rfl ?_
        refine q_istore (pc := 213) dX8_boards_213 (Nat.le_of_ble_eq_true rfl) ?_
        first
        | contradiction
        | (have q := kk τ2 0 hFt (Or.inl rfl) ⟨fun z => absurd z (by decide), fun z => absurd ((show b2 = 1 from hi2.mpr ⟨hi1.mpr ⟨hi0.mpr ⟨z.1, z.2.1.1⟩, z.2.1.2.1⟩, z.2.1.2.2⟩).symm.trans h169) (by decide)⟩
           rw [if_neg (by decide), if_neg (by decide)] at q
           exact q_locs _ [5, 0, 1, 6, 7, 8] rfl q)
        | (have q := kk σ2 0 (hFt.tt hF2) (Or.inl rfl) ⟨fun z => absurd z (by decide), fun z => absurd z.2.2 (by assumption)⟩
           rw [if_neg (by decide), if_neg (by decide)] at q
           exact q_locs _ [5, 0, 1, 6, 7, 8] rfl q)
        | (have hb := hi2.mp (hb2.resolve_left h169)
           have hc := hi1.mp hb.1
           have he := hi0.mp hc.1
           have q := kk σ2 1 (hFt.tt hF2) (Or.inr rfl) ⟨fun z => ⟨he.1, ⟨he.2, hc.2, hb.2⟩, by assumption⟩, fun z => rfl⟩
           rw [if_pos rfl, if_pos rfl] at q
           exact q_locs _ [5, 0, 1, 6, 7, 8] rfl q)
      · refine q_iload (pc := 206) dX8_boards_206 rfl ?_
        refine q_goto (pc := 208) (tgt := 213) dX8_boards_208 (by decide) ?_
        refine q_istore (pc := 213) dX8_boards_213 (Nat.le_of_ble_eq_true rfl) ?_
        first
        | contradiction
        | (have q := kk τ2 0 hFt (Or.inl rfl) ⟨fun z => absurd z (by decide), fun z => absurd ((show b2 = 1 from hi2.mpr ⟨hi1.mpr ⟨hi0.mpr ⟨z.1, z.2.1.1⟩, z.2.1.2.1⟩, z.2.1.2.2⟩).symm.trans h169) (by decide)⟩
           rw [if_neg (by decide), if_neg (by decide)] at q
           exact q_locs _ [5, 0, 1, 6, 7, 8] rfl q)
        | (have q := kk σ2 0 (hFt.tt hF2) (Or.inl rfl) ⟨fun z => absurd z (by decide), fun z => absurd z.2.2 (by assumption)⟩
           rw [if_neg (by decide), if_neg (by decide)] at q
           exact q_locs _ [5, 0, 1, 6, 7, 8] rfl q)
        | (have hb := hi2.mp (hb2.resolve_left h169)
           have hc := hi1.mp hb.1
           have he := hi0.mp hc.1
           have q := kk σ2 1 (hFt.tt hF2) (Or.inr rfl) ⟨fun z => ⟨he.1, ⟨he.2, hc.2, hb.2⟩, by assumption⟩, fun z => rfl⟩
           rw [if_pos rfl, if_pos rfl] at q
           exact q_locs _ [5, 0, 1, 6, 7, 8] rfl q)
    · refine q_iload (pc := 194) dX8_boards_194 rfl ?_
      refine q_goto (pc := 196) (tgt := 200) dX8_boards_196 (by decide) ?_
      refine q_istore_n (pc := 200) dX8_boards_200 (Nat.le_of_ble_eq_true rfl) ?_
      refine q_iload (pc := 201) dX8_boards_201 rfl ?_
      refine q_ifeqb (pc := 203) (tgt := 211) dX8_boards_203 (by decide) (fun h203 => ?_) (fun h203 => ?_)
      · refine q_iload (pc := 211) dX8_boards_211 rfl ?_
        refine q_istore (pc := 213) dX8_boards_213 (Nat.le_of_ble_eq_true rfl) ?_
        first
        | contradiction
        | (have q := kk τ2 0 hFt (Or.inl rfl) ⟨fun z => absurd z (by decide), fun z => absurd ((show b2 = 1 from hi2.mpr ⟨hi1.mpr ⟨hi0.mpr ⟨z.1, z.2.1.1⟩, z.2.1.2.1⟩, z.2.1.2.2⟩).symm.trans h169) (by decide)⟩
           rw [if_neg (by decide), if_neg (by decide)] at q
           exact q_locs _ [5, 0, 1, 6, 7, 8] rfl q)
        | (have q := kk σ2 0 (hFt.tt hF2) (Or.inl rfl) ⟨fun z => absurd z (by decide), fun z => absurd z.2.2 (by assumption)⟩
           rw [if_neg (by decide), if_neg (by decide)] at q
           exact q_locs _ [5, 0, 1, 6, 7, 8] rfl q)
        | (have hb := hi2.mp (hb2.resolve_left h169)
           have hc := hi1.mp hb.1
           have he := hi0.mp hc.1
           have q := kk σ2 1 (hFt.tt hF2) (Or.inr rfl) ⟨fun z => ⟨he.1, ⟨he.2, hc.2, hb.2⟩, by assumption⟩, fun z => rfl⟩
           rw [if_pos rfl, if_pos rfl] at q
           exact q_locs _ [5, 0, 1, 6, 7, 8] rfl q)
      · refine q_iload (pc := 206) dX8_boards_206 rfl ?_
        refine q_goto (pc := 208) (tgt := 213) dX8_boards_208 (by decide) ?_
        refine q_istore (pc := 213) dX8_boards_213 (Nat.le_of_ble_eq_true rfl) ?_
        first
        | contradiction
        | (have q := kk τ2 0 hFt (Or.inl rfl) ⟨fun z => absurd z (by decide), fun z => absurd ((show b2 = 1 from hi2.mpr ⟨hi1.mpr ⟨hi0.mpr ⟨z.1, z.2.1.1⟩, z.2.1.2.1⟩, z.2.1.2.2⟩).symm.trans h169) (by decide)⟩
           rw [if_neg (by decide), if_neg (by decide)] at q
           exact q_locs _ [5, 0, 1, 6, 7, 8] rfl q)
        | (have q := kk σ2 0 (hFt.tt hF2) (Or.inl rfl) ⟨fun z => absurd z (by decide), fun z => absurd z.2.2 (by assumption)⟩
           rw [if_neg (by decide), if_neg (by decide)] at q
           exact q_locs _ [5, 0, 1, 6, 7, 8] rfl q)
        | (have hb := hi2.mp (hb2.resolve_left h169)
           have hc := hi1.mp hb.1
           have he := hi0.mp hc.1
           have q := kk σ2 1 (hFt.tt hF2) (Or.inr rfl) ⟨fun z => ⟨he.1, ⟨he.2, hc.2, hb.2⟩, by assumption⟩, fun z => rfl⟩
           rw [if_pos rfl, if_pos rfl] at q
           exact q_locs _ [5, 0, 1, 6, 7, 8] rfl q)
theorem m_boards_l {n w : Int} (hf0 : RwR σ 86 f) (hR : Row f) (h1 : f 0 = 1) (hn : 1 ≤ n ∧ n ≤ 24) (hw : -1 ≤ w ∧ w ≤ 2) : ∀ (m k : Nat) (σ' : qM), m + k = 64 → Fr σ σ' [88] → qE G mX8_boards (d + 4) 54 [(5, vi k), (4, vi (bS f n.toNat k).2), (3, vi (bS f n.toNat k).1), (0, vr 82), (1, vi n), (2, vi w)] [] σ' (ri fun r σ1 => (if (bS f n.toNat 64).1 = -1000000 then -1000000 else if w = -1 then (bS f n.toNat 64).2 else bw (bS f n.toNat 64).1 w) = r ∧ Fr σ σ1 [88]) := by
  intro m
  induction m with
  | zero =>
    intro k σ' hk hF
    have hin := bS_in f n.toNat k
    refine q_iload (pc := 54) dX8_boards_54 rfl ?_
    refine q_bipush (pc := 56) dX8_boards_56 (by decide +kernel) ?_
    refine q_icmpge (pc := 58) (tgt := 221) dX8_boards_58 (by decide) (by omega) (by omega) (fun h58 => ?_) (fun h => absurd h (by omega))
    refine q_iload_n (pc := 221) dX8_boards_221 rfl ?_
    refine q_ldc (pc := 222) (n := -1000000) kX8_93 dX8_boards_222 ?_
    refine q_icmpne (pc := 224) (tgt := 232) dX8_boards_224 (by decide) (by omega) (by omega) (fun h224 => ?_) (fun h224 => ?_)
    · refine q_iload_n (pc := 232) dX8_boards_232 rfl ?_
      refine q_iconst (pc := 233) dX8_boards_233 ?_
      refine q_icmpne (pc := 234) (tgt := 242) dX8_boards_234 (by decide) (by omega) (by omega) (fun h234 => ?_) (fun h234 => ?_)
      · refine q_iload_n (pc := 242) dX8_boards_242 rfl ?_
        refine q_iconst (pc := 243) dX8_boards_243 ?_
        refine q_iconst (pc := 244) dX8_boards_244 ?_
        refine q_iload_n (pc := 245) dX8_boards_245 rfl ?_
        refine q_imul (pc := 246) dX8_boards_246 ?_
        refine q_isub (pc := 247) dX8_boards_247 ?_
        refine q_ishr (pc := 248) dX8_boards_248 ?_
        refine q_iconst (pc := 249) dX8_boards_249 ?_
        refine q_iand (pc := 250) dX8_boards_250 ?_
        refine q_ri (pc := 251) dX8_boards_251 rfl ?_
        rw [show 64 = k by omega]
        refine ⟨?_, hF⟩
        first
        | (rw [if_pos (by omega)]; done)
        | (rw [if_neg (by omega), if_pos (by omega)]; done)
        | (rw [if_neg (by omega), if_neg (by omega)]
           obtain ⟨w1, w2, w3, w4, w5⟩ := way_i (k := (bS f n.toNat k).1) (by omega) (by omega)
           rcases (show w = 0 ∨ w = 1 ∨ w = 2 by omega) with rfl | rfl | rfl
           · exact w2.symm
           · exact w3.symm
           · exact w5.symm)
      · refine q_iload (pc := 237) dX8_boards_237 rfl ?_
        refine q_goto (pc := 239) (tgt := 251) dX8_boards_239 (by decide) ?_
        refine q_ri (pc := 251) dX8_boards_251 rfl ?_
        rw [show 64 = k by omega]
        refine ⟨?_, hF⟩
        first
        | (rw [if_pos (by omega)]; done)
        | (rw [if_neg (by omega), if_pos (by omega)]; done)
        | (rw [if_neg (by omega), if_neg (by omega)]
           obtain ⟨w1, w2, w3, w4, w5⟩ := way_i (k := (bS f n.toNat k).1) (by omega) (by omega)
           rcases (show w = 0 ∨ w = 1 ∨ w = 2 by omega) with rfl | rfl | rfl
           · exact w2.symm
           · exact w3.symm
           · exact w5.symm)
    · refine q_ldc (pc := 227) (n := -1000000) kX8_93 dX8_boards_227 ?_
      refine q_goto (pc := 229) (tgt := 251) dX8_boards_229 (by decide) ?_
      refine q_ri (pc := 251) dX8_boards_251 rfl ?_
      rw [show 64 = k by omega]
      refine ⟨?_, hF⟩
      first
      | (rw [if_pos (by omega)]; done)
      | (rw [if_neg (by omega), if_pos (by omega)]; done)
      | (rw [if_neg (by omega), if_neg (by omega)]
         obtain ⟨w1, w2, w3, w4, w5⟩ := way_i (k := (bS f n.toNat k).1) (by omega) (by omega)
         rcases (show w = 0 ∨ w = 1 ∨ w = 2 by omega) with rfl | rfl | rfl
         · exact w2.symm
         · exact w3.symm
         · exact w5.symm)
  | succ m ih =>
    intro k σ' hk hF
    have hf := hf0.fr hF (by simp)
    obtain ⟨w1, w2, w3, w4, w5⟩ := way_n (k := k) (by omega)
    have hin := bS_in f n.toNat k
    have nx : ∀ σ1 (b w7 : Int), Fr σ' σ1 [88] → (b = 0 ∨ b = 1) → (w7 = 1 ↔ ((bS f n.toNat k).1 = -1000000 ∨ (k : Int) / 16 + (k : Int) / 4 % 4 + (k : Int) % 4 < (bS f n.toNat k).2)) → (b = 1 ↔ w7 = 1 ∧ ((k : Int) / 16 ≤ f 10 ∧ (k : Int) / 4 % 4 ≤ f 11 ∧ (k : Int) % 4 ≤ f 12) ∧ mLevel (mHours n.toNat (mB3 f ((k : Int) / 16) ((k : Int) / 4 % 4) ((k : Int) % 4)))) → qE G mX8_boards (d + 4) 215 [(5, vi k), (4, vi (if b = 1 then (k : Int) / 16 + (k : Int) / 4 % 4 + (k : Int) % 4 else (bS f n.toNat k).2)), (3, vi (if b = 1 then (k : Int) else (bS f n.toNat k).1)), (0, vr 82), (1, vi n), (2, vi w)] [] σ1 (ri fun r σ1 => (if (bS f n.toNat 64).1 = -1000000 then -1000000 else if w = -1 then (bS f n.toNat 64).2 else bw (bS f n.toNat 64).1 w) = r ∧ Fr σ σ1 [88]) := by
      intro σ1 b w7 hF1 hb h7 hb1
      refine q_iinc (pc := 215) dX8_boards_215 rfl (Nat.le_of_ble_eq_true rfl) ?_
      refine q_goto (pc := 218) (tgt := 54) dX8_boards_218 (by decide) ?_
      have q := ih (k + 1) σ1 (by omega) (hF.tt hF1)
      rcases hb with rfl | rfl
      · rw [bS_n (by
          by_cases c : w7 = 1
          · by_cases c2 : (k : Int) / 16 ≤ f 10 ∧ (k : Int) / 4 % 4 ≤ f 11 ∧ (k : Int) % 4 ≤ f 12
            · exact Or.inr (Or.inr (fun z => absurd (hb1.mpr ⟨c, c2, z⟩) (by omega)))
            · exact Or.inr (Or.inl c2)
          · exact Or.inl (fun z => c (h7.mpr z)))] at q
        rw [if_neg (by omega), if_neg (by omega)]
        exact q_locs _ [0, 1, 2, 3, 4, 5] rfl q
      · have z := hb1.mp rfl
        rw [bS_y (h7.mp z.1) z.2.1 z.2.2] at q
        rw [if_pos rfl, if_pos rfl]
        exact q_locs _ [0, 1, 2, 3, 4, 5] rfl q
    refine q_iload (pc := 54) dX8_boards_54 rfl ?_
    refine q_bipush (pc := 56) dX8_boards_56 (by decide +kernel) ?_
    refine q_icmpge (pc := 58) (tgt := 221) dX8_boards_58 (by decide) (by omega) (by omega) (fun h => absurd h (by omega)) (fun h58 => ?_)
    refine q_iload (pc := 61) dX8_boards_61 rfl ?_
    refine q_iconst (pc := 63) dX8_boards_63 ?_
    refine q_ishr (pc := 64) dX8_boards_64 ?_
    refine q_iload (pc := 65) dX8_boards_65 rfl ?_
    refine q_iconst (pc := 67) dX8_boards_67 ?_
    refine q_ishr (pc := 68) dX8_boards_68 ?_
    refine q_iconst (pc := 69) dX8_boards_69 ?_
    refine q_iand (pc := 70) dX8_boards_70 ?_
    refine q_iadd (pc := 71) dX8_boards_71 ?_
    refine q_iload (pc := 72) dX8_boards_72 rfl ?_
    refine q_iconst (pc := 74) dX8_boards_74 ?_
    refine q_iand (pc := 75) dX8_boards_75 ?_
    refine q_iadd (pc := 76) dX8_boards_76 ?_
    refine q_istore (pc := 77) dX8_boards_77 (Nat.le_of_ble_eq_true rfl) ?_
    refine q_iload_n (pc := 79) dX8_boards_79 rfl ?_
    refine q_ldc (pc := 80) (n := -1000000) kX8_93 dX8_boards_80 ?_
    refine q_icmpeq (pc := 82) (tgt := 92) dX8_boards_82 (by decide) (by omega) (by omega) (fun h82 => ?_) (fun h82 => ?_)
    · refine q_iconst (pc := 92) dX8_boards_92 ?_
      refine q_goto (pc := 93) (tgt := 97) dX8_boards_93 (by decide) ?_
      refine q_istore (pc := 97) dX8_boards_97 (Nat.le_of_ble_eq_true rfl) ?_
      rw [w1, w3, w4]
      first
      | exact m_boards_b hf hR h1 hn (by omega) (Or.inl rfl) (fun σ1 b hF1 hb hb1 => nx σ1 b 0 hF1 hb (by omega) hb1)
      | exact m_boards_b hf hR h1 hn (by omega) (Or.inr rfl) (fun σ1 b hF1 hb hb1 => nx σ1 b 1 hF1 hb (by omega) hb1)
    · refine q_iload (pc := 85) dX8_boards_85 rfl ?_
      refine q_iload (pc := 87) dX8_boards_87 rfl ?_
      refine q_icmpge (pc := 89) (tgt := 96) dX8_boards_89 (by decide) (by omega) (by omega) (fun h89 => ?_) (fun h89 => ?_)
      · refine q_iconst (pc := 96) dX8_boards_96 ?_
        refine q_istore (pc := 97) dX8_boards_97 (Nat.le_of_ble_eq_true rfl) ?_
        rw [w1, w3, w4]
        first
        | exact m_boards_b hf hR h1 hn (by omega) (Or.inl rfl) (fun σ1 b hF1 hb hb1 => nx σ1 b 0 hF1 hb (by omega) hb1)
        | exact m_boards_b hf hR h1 hn (by omega) (Or.inr rfl) (fun σ1 b hF1 hb hb1 => nx σ1 b 1 hF1 hb (by omega) hb1)
      · refine q_iconst (pc := 92) dX8_boards_92 ?_
        refine q_goto (pc := 93) (tgt := 97) dX8_boards_93 (by decide) ?_
        refine q_istore (pc := 97) dX8_boards_97 (Nat.le_of_ble_eq_true rfl) ?_
        rw [w1, w3, w4]
        first
        | exact m_boards_b hf hR h1 hn (by omega) (Or.inl rfl) (fun σ1 b hF1 hb hb1 => nx σ1 b 0 hF1 hb (by omega) hb1)
        | exact m_boards_b hf hR h1 hn (by omega) (Or.inr rfl) (fun σ1 b hF1 hb hb1 => nx σ1 b 1 hF1 hb (by omega) hb1)
theorem m_boards {n w : Int} (hM : MR σ A) (hV : AV A) (hn : -2147483648 ≤ n ∧ n ≤ 2147483647) (hw : -2147483648 ≤ w ∧ w ≤ 2147483647) : qE G mX8_boards (d + 4) 0 [(0, vr 82), (1, vi n), (2, vi w)] [] σ (ri (pM σ (s_boards A n w))) := by
  have hR := hV.1
  have h01 := hR.f0
  refine q_aload_n (pc := 0) dX8_boards_0 rfl ?_
  refine q_iconst (pc := 1) dX8_boards_1 ?_
  refine q_pI (pc := 2) 0 dX8_boards_2 wX8_50 rfl rfl rfl ?_
  have hM := hM.fld (i := 0) (v := 0) (by decide)
  have hF0 : ∀ j, j < 82 → up σ 82 0 0 j = σ j := fun j hj => up_ne (by omega)
  generalize up σ 82 0 0 = τ at hM hF0 ⊢
  refine q_aload_n (pc := 5) dX8_boards_5 rfl ?_
  refine q_V0i (pc := 6) dX8_boards_6 vX8_184 rfl rfl (Nat.le_of_ble_eq_true rfl) (Nat.le_of_ble_eq_true rfl) (t_X8_isThere hM.1 h01) (fun r1 σ1 hc1 => ?_)
  obtain ⟨rfl, rfl⟩ := hc1
  refine q_ifneb (pc := 9) (tgt := 15) dX8_boards_9 (by decide) (fun h9 => ?_) (fun h9 => ?_)
  · refine q_iload_n (pc := 15) dX8_boards_15 rfl ?_
    refine q_i2l (pc := 16) dX8_boards_16 (by omega) ?_
    refine q_lconst1 (pc := 17) dX8_boards_17 ?_
    refine q_ldc2 (pc := 18) (n := 24) kX8_188 dX8_boards_18 ?_
    refine q_S3i (pc := 21) dX8_boards_21 vX8_60 (Nat.le_of_ble_eq_true rfl) (Nat.le_of_ble_eq_true rfl) (t_X8_in (by omega) (by omega) (by omega)) (fun r2 σ2 hc2 => ?_)
    obtain ⟨rfl, rfl⟩ := hc2
    refine q_ifeqb (pc := 24) (tgt := 41) dX8_boards_24 (by decide) (fun h24 => ?_) (fun h24 => ?_)
    · refine q_ldc (pc := 41) (n := -1000001) kX8_70 dX8_boards_41 ?_
      refine q_ri (pc := 43) dX8_boards_43 rfl ?_
      refine pM.q0 hF0 hM ?_
      repeat' (first | rw [if_neg (by omega)] | rw [if_pos (by omega)])
    · refine q_iload_n (pc := 27) dX8_boards_27 rfl ?_
      refine q_i2l (pc := 28) dX8_boards_28 (by omega) ?_
      refine q_ldc2 (pc := 29) (n := -1) kX8_239 dX8_boards_29 ?_
      refine q_ldc2 (pc := 32) (n := 2) kX8_68 dX8_boards_32 ?_
      refine q_S3i (pc := 35) dX8_boards_35 vX8_60 (Nat.le_of_ble_eq_true rfl) (Nat.le_of_ble_eq_true rfl) (t_X8_in (by omega) (by omega) (by omega)) (fun r3 σ3 hc3 => ?_)
      obtain ⟨rfl, rfl⟩ := hc3
      refine q_ifneb (pc := 38) (tgt := 44) dX8_boards_38 (by decide) (fun h38 => ?_) (fun h38 => ?_)
      · refine q_ldc (pc := 44) (n := -1000000) kX8_93 dX8_boards_44 ?_
        refine q_istore_n (pc := 46) dX8_boards_46 (Nat.le_of_ble_eq_true rfl) ?_
        refine q_ldc (pc := 47) (n := -1000000) kX8_93 dX8_boards_47 ?_
        refine q_istore (pc := 49) dX8_boards_49 (Nat.le_of_ble_eq_true rfl) ?_
        refine q_iconst (pc := 51) dX8_boards_51 ?_
        refine q_istore (pc := 52) dX8_boards_52 (Nat.le_of_ble_eq_true rfl) ?_
        refine q_mono (fun v σ' h => ?_) (m_boards_l hM.1 hR (by omega) (by omega) (by omega) 64 0 τ rfl Fr.rf)
        obtain ⟨x, h1, h2, h3⟩ := h
        refine ⟨x, h1, pM.q hF0 hM h3 (scr_im (by decide)) ?_⟩
        rw [if_pos (by omega), if_pos (by omega)]
        exact h2
      · refine q_ldc (pc := 41) (n := -1000001) kX8_70 dX8_boards_41 ?_
        refine q_ri (pc := 43) dX8_boards_43 rfl ?_
        refine pM.q0 hF0 hM ?_
        repeat' (first | rw [if_neg (by omega)] | rw [if_pos (by omega)])
  · refine q_ldc (pc := 12) (n := -1000002) kX8_187 dX8_boards_12 ?_
    refine q_ri (pc := 14) dX8_boards_14 rfl ?_
    refine pM.q0 hF0 hM ?_
    repeat' (first | rw [if_neg (by omega)] | rw [if_pos (by omega)])
end T8
