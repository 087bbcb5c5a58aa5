/-! ===== the reference: lift ===== -/
section T8
variable {G : qGl} {d : Nat} {σ : qM} {A : qA} {f : Int → Int}
theorem m_lift_l {w : Int} (hf0 : RwR σ 86 f) (hR : Row f) (h1 : f 0 = 1) (hw : -1 ≤ w ∧ w ≤ 2) : ∀ (m k : Nat) (σ' : qM), m + k = 9261 → Fr σ σ' [88] → qE G mX8_lift (d + 4) 41 [(4, vi k), (3, vi (lZ f k).2), (2, vi (lZ f k).1), (0, vr 82), (1, vi w)] [] σ' (ri fun r σ1 => (if (lZ f 9261).1 = -1000000 then -1000000 else if w = -1 then (lZ f 9261).2 else lw (lZ f 9261).1 w) = r ∧ Fr σ σ1 [88]) := by
  intro m
  induction m with
  | zero =>
    intro k σ' hk hF
    have hin := lZ_in f k
    refine q_iload (pc := 41) dX8_lift_41 rfl ?_
    refine q_sipush (pc := 43) dX8_lift_43 (by decide +kernel) ?_
    refine q_icmpge (pc := 46) (tgt := 170) dX8_lift_46 (by decide) (by omega) (by omega) (fun h46 => ?_) (fun h => absurd h (by omega))
    refine q_iload_n (pc := 170) dX8_lift_170 rfl ?_
    refine q_ldc (pc := 171) (n := -1000000) kX8_93 dX8_lift_171 ?_
    refine q_icmpne (pc := 173) (tgt := 181) dX8_lift_173 (by decide) (by omega) (by omega) (fun h173 => ?_) (fun h173 => ?_)
    · refine q_iload_n (pc := 181) dX8_lift_181 rfl ?_
      refine q_iconst (pc := 182) dX8_lift_182 ?_
      refine q_icmpne (pc := 183) (tgt := 190) dX8_lift_183 (by decide) (by omega) (by omega) (fun h183 => ?_) (fun h183 => ?_)
      · refine q_iload_n (pc := 190) dX8_lift_190 rfl ?_
        refine q_ifne (pc := 191) (tgt := 202) dX8_lift_191 (by decide) (by omega) (fun h191 => ?_) (fun h191 => ?_)
        · refine q_iload_n (pc := 202) dX8_lift_202 rfl ?_
          refine q_iconst (pc := 203) dX8_lift_203 ?_
          refine q_icmpne (pc := 204) (tgt := 217) dX8_lift_204 (by decide) (by omega) (by omega) (fun h204 => ?_) (fun h204 => ?_)
          · refine q_iload_n (pc := 217) dX8_lift_217 rfl ?_
            refine q_bipush (pc := 218) dX8_lift_218 (by decide +kernel) ?_
            refine q_irem (pc := 220) dX8_lift_220 (by omega) ?_
            refine q_ri (pc := 221) dX8_lift_221 rfl ?_
            rw [show 9261 = k by omega]
            refine ⟨?_, hF⟩
            first
            | (rw [if_pos (by omega)]; done)
            | (rw [if_neg (by omega), if_pos (by omega)]; done)
            | (rw [if_neg (by omega), if_neg (by omega)]
               rcases (show w = 0 ∨ w = 1 ∨ w = 2 by omega) with rfl | rfl | rfl
               · first | rfl | (exfalso; omega)
               · first | rfl | (exfalso; omega)
               · first | rfl | (exfalso; omega))
          · refine q_iload_n (pc := 207) dX8_lift_207 rfl ?_
            refine q_bipush (pc := 208) dX8_lift_208 (by decide +kernel) ?_
            refine q_idiv (pc := 210) dX8_lift_210 (by omega) ?_
            refine q_bipush (pc := 211) dX8_lift_211 (by decide +kernel) ?_
            refine q_irem (pc := 213) dX8_lift_213 (by omega) ?_
            refine q_goto (pc := 214) (tgt := 221) dX8_lift_214 (by decide) ?_
            refine q_ri (pc := 221) dX8_lift_221 rfl ?_
            rw [show 9261 = k by omega]
            refine ⟨?_, hF⟩
            first
            | (rw [if_pos (by omega)]; done)
            | (rw [if_neg (by omega), if_pos (by omega)]; done)
            | (rw [if_neg (by omega), if_neg (by omega)]
               rcases (show w = 0 ∨ w = 1 ∨ w = 2 by omega) with rfl | rfl | rfl
               · first | rfl | (exfalso; omega)
               · first | rfl | (exfalso; omega)
               · first | rfl | (exfalso; omega))
        · refine q_iload_n (pc := 194) dX8_lift_194 rfl ?_
          refine q_sipush (pc := 195) dX8_lift_195 (by decide +kernel) ?_
          refine q_idiv (pc := 198) dX8_lift_198 (by omega) ?_
          refine q_goto (pc := 199) (tgt := 221) dX8_lift_199 (by decide) ?_
          refine q_ri (pc := 221) dX8_lift_221 rfl ?_
          rw [show 9261 = k by omega]
          refine ⟨?_, hF⟩
          first
          | (rw [if_pos (by omega)]; done)
          | (rw [if_neg (by omega), if_pos (by omega)]; done)
          | (rw [if_neg (by omega), if_neg (by omega)]
             rcases (show w = 0 ∨ w = 1 ∨ w = 2 by omega) with rfl | rfl | rfl
             · first | rfl | (exfalso; omega)
             · first | rfl | (exfalso; omega)
             · first | rfl | (exfalso; omega))
      · refine q_iload_n (pc := 186) dX8_lift_186 rfl ?_
        refine q_goto (pc := 187) (tgt := 221) dX8_lift_187 (by decide) ?_
        refine q_ri (pc := 221) dX8_lift_221 rfl ?_
        rw [show 9261 = k by omega]
        refine ⟨?_, hF⟩
        first
        | (rw [if_pos (by omega)]; done)
        | (rw [if_neg (by omega), if_pos (by omega)]; done)
        | (rw [if_neg (by omega), if_neg (by omega)]
           rcases (show w = 0 ∨ w = 1 ∨ w = 2 by omega) with rfl | rfl | rfl
           · first | rfl | (exfalso; omega)
           · first | rfl | (exfalso; omega)
           · first | rfl | (exfalso; omega))
    · refine q_ldc (pc := 176) (n := -1000000) kX8_93 dX8_lift_176 ?_
      refine q_goto (pc := 178) (tgt := 221) dX8_lift_178 (by decide) ?_
      refine q_ri (pc := 221) dX8_lift_221 rfl ?_
      rw [show 9261 = k by omega]
      refine ⟨?_, hF⟩
      first
      | (rw [if_pos (by omega)]; done)
      | (rw [if_neg (by omega), if_pos (by omega)]; done)
      | (rw [if_neg (by omega), if_neg (by omega)]
         rcases (show w = 0 ∨ w = 1 ∨ w = 2 by omega) with rfl | rfl | rfl
         · first | rfl | (exfalso; omega)
         · first | rfl | (exfalso; omega)
         · first | rfl | (exfalso; omega))
  | succ m ih =>
    intro k σ' hk hF
    have hf := hf0.fr hF (by simp)
    have hO := hR.1
    have hin := lZ_in f k
    have hl := hR.law h1
    refine q_iload (pc := 41) dX8_lift_41 rfl ?_
    refine q_sipush (pc := 43) dX8_lift_43 (by decide +kernel) ?_
    refine q_icmpge (pc := 46) (tgt := 170) dX8_lift_46 (by decide) (by omega) (by omega) (fun h => absurd h (by omega)) (fun h46 => ?_)
    refine q_iload (pc := 49) dX8_lift_49 rfl ?_
    refine q_sipush (pc := 51) dX8_lift_51 (by decide +kernel) ?_
    refine q_idiv (pc := 54) dX8_lift_54 (by omega) ?_
    refine q_iload (pc := 55) dX8_lift_55 rfl ?_
    refine q_bipush (pc := 57) dX8_lift_57 (by decide +kernel) ?_
    refine q_idiv (pc := 59) dX8_lift_59 (by omega) ?_
    refine q_bipush (pc := 60) dX8_lift_60 (by decide +kernel) ?_
    refine q_irem (pc := 62) dX8_lift_62 (by omega) ?_
    refine q_iadd (pc := 63) dX8_lift_63 ?_
    refine q_iload (pc := 64) dX8_lift_64 rfl ?_
    refine q_bipush (pc := 66) dX8_lift_66 (by decide +kernel) ?_
    refine q_irem (pc := 68) dX8_lift_68 (by omega) ?_
    refine q_iadd (pc := 69) dX8_lift_69 ?_
    refine q_istore (pc := 70) dX8_lift_70 (Nat.le_of_ble_eq_true rfl) ?_
    refine q_iload_n (pc := 72) dX8_lift_72 rfl ?_
    refine q_ldc (pc := 73) (n := -1000000) kX8_93 dX8_lift_73 ?_
    refine q_icmpeq (pc := 75) (tgt := 84) dX8_lift_75 (by decide) (by omega) (by omega) (fun h75 => ?_) (fun h75 => ?_)
    · refine q_aload_n (pc := 84) dX8_lift_84 rfl ?_
      refine q_V0v (pc := 85) dX8_lift_85 vX8_216 rfl rfl (Nat.le_of_ble_eq_true rfl) (Nat.le_of_ble_eq_true rfl) (t_X8_layThen hf) (fun σ1 hc1 => ?_)
      obtain ⟨hF1, hT1⟩ := hc1
      refine q_aload_n (pc := 88) dX8_lift_88 rfl ?_
      refine q_getR (pc := 89) dX8_lift_89 fX8_25 rfl rfl ?_
      refine q_iconst (pc := 92) dX8_lift_92 ?_
      refine q_iload (pc := 93) dX8_lift_93 rfl ?_
      refine q_sipush (pc := 95) dX8_lift_95 (by decide +kernel) ?_
      refine q_idiv (pc := 98) dX8_lift_98 (by omega) ?_
      refine q_S3v (pc := 99) dX8_lift_99 vX8_168 (Nat.le_of_ble_eq_true rfl) (Nat.le_of_ble_eq_true rfl) (t_X8_lifts sh88 hT1 hO (by omega) (by omega) (by omega)) (fun σ2 hc2 => ?_)
      obtain ⟨hFa, hTa, hOa⟩ := hc2
      refine q_aload_n (pc := 102) dX8_lift_102 rfl ?_
      refine q_getR (pc := 103) dX8_lift_103 fX8_25 rfl rfl ?_
      refine q_iconst (pc := 106) dX8_lift_106 ?_
      refine q_iload (pc := 107) dX8_lift_107 rfl ?_
      refine q_bipush (pc := 109) dX8_lift_109 (by decide +kernel) ?_
      refine q_idiv (pc := 111) dX8_lift_111 (by omega) ?_
      refine q_bipush (pc := 112) dX8_lift_112 (by decide +kernel) ?_
      refine q_irem (pc := 114) dX8_lift_114 (by omega) ?_
      refine q_S3v (pc := 115) dX8_lift_115 vX8_168 (Nat.le_of_ble_eq_true rfl) (Nat.le_of_ble_eq_true rfl) (t_X8_lifts sh88 hTa hOa (by omega) (by omega) (by omega)) (fun σ3 hc3 => ?_)
      obtain ⟨hFb, hTb, hOb⟩ := hc3
      refine q_aload_n (pc := 118) dX8_lift_118 rfl ?_
      refine q_getR (pc := 119) dX8_lift_119 fX8_25 rfl rfl ?_
      refine q_iconst (pc := 122) dX8_lift_122 ?_
      refine q_iload (pc := 123) dX8_lift_123 rfl ?_
      refine q_bipush (pc := 125) dX8_lift_125 (by decide +kernel) ?_
      refine q_irem (pc := 127) dX8_lift_127 (by omega) ?_
      refine q_S3v (pc := 128) dX8_lift_128 vX8_168 (Nat.le_of_ble_eq_true rfl) (Nat.le_of_ble_eq_true rfl) (t_X8_lifts sh88 hTb hOb (by omega) (by omega) (by omega)) (fun σ4 hc4 => ?_)
      obtain ⟨hFc, hTc, hOc⟩ := hc4
      have hFx := ((hF1.tt hFa).tt hFb).tt hFc
      refine q_aload_n (pc := 131) dX8_lift_131 rfl ?_
      refine q_getR (pc := 132) dX8_lift_132 fX8_25 rfl rfl ?_
      refine q_S1i (pc := 135) dX8_lift_135 vX8_210 (Nat.le_of_ble_eq_true rfl) (Nat.le_of_ble_eq_true rfl) (t_X8_isLevel sh88 hTc hOc hl.1 hl.2.1) (fun r5 σ5 hc5 => ?_)
      obtain ⟨rfl, rfl⟩ := hc5
      refine q_istore (pc := 138) dX8_lift_138 (Nat.le_of_ble_eq_true rfl) ?_
      refine q_iload (pc := 140) dX8_lift_140 rfl ?_
      refine q_ifeqb (pc := 142) (tgt := 150) dX8_lift_142 (by decide) (fun h142 => ?_) (fun h142 => ?_)
      · refine q_iload_n (pc := 150) dX8_lift_150 rfl ?_
        refine q_istore_n (pc := 151) dX8_lift_151 (Nat.le_of_ble_eq_true rfl) ?_
        refine q_iload (pc := 152) dX8_lift_152 rfl ?_
        refine q_ifeqb (pc := 154) (tgt := 162) dX8_lift_154 (by decide) (fun h154 => ?_) (fun h154 => ?_)
        · refine q_iload_n (pc := 162) dX8_lift_162 rfl ?_
          refine q_istore_n (pc := 163) dX8_lift_163 (Nat.le_of_ble_eq_true rfl) ?_
          refine q_iinc (pc := 164) dX8_lift_164 rfl (Nat.le_of_ble_eq_true rfl) ?_
          refine q_goto (pc := 167) (tgt := 41) dX8_lift_167 (by decide) ?_
          first
          | contradiction
          | (have e : lZ f (k + 1) = lZ f k := lZ_n (Or.inl (by omega))
             have q := ih (k + 1) σ' (by omega) hF
             rw [e] at q
             exact q_locs _ [0, 1, 2, 5, 6] rfl q)
          | (have e : lZ f (k + 1) = lZ f k := lZ_n (Or.inr (by assumption))
             have q := ih (k + 1) σ4 (by omega) (hF.tt hFx)
             rw [e] at q
             exact q_locs _ [0, 1, 2, 5, 6] rfl q)
          | (have e := lZ_y (f := f) (k := k) (by omega) (by assumption)
             have q := ih (k + 1) σ4 (by omega) (hF.tt hFx)
             rw [e] at q
             exact q_locs _ [0, 1, 2, 5, 6] rfl q)
        · refine q_iload (pc := 157) dX8_lift_157 rfl ?_
          refine q_goto (pc := 159) (tgt := 163) dX8_lift_159 (by decide) ?_
          refine q_istore_n (pc := 163) dX8_lift_163 (Nat.le_of_ble_eq_true rfl) ?_
          refine q_iinc (pc := 164) dX8_lift_164 rfl (Nat.le_of_ble_eq_true rfl) ?_
          refine q_goto (pc := 167) (tgt := 41) dX8_lift_167 (by decide) ?_
          first
          | contradiction
          | (have e : lZ f (k + 1) = lZ f k := lZ_n (Or.inl (by omega))
             have q := ih (k + 1) σ' (by omega) hF
             rw [e] at q
             exact q_locs _ [0, 1, 2, 5, 6] rfl q)
          | (have e : lZ f (k + 1) = lZ f k := lZ_n (Or.inr (by assumption))
             have q := ih (k + 1) σ4 (by omega) (hF.tt hFx)
             rw [e] at q
             exact q_locs _ [0, 1, 2, 5, 6] rfl q)
          | (have e := lZ_y (f := f) (k := k) (by omega) (by assumption)
             have q := ih (k + 1) σ4 (by omega) (hF.tt hFx)
             rw [e] at q
             exact q_locs _ [0, 1, 2, 5, 6] rfl q)
      · refine q_iload (pc := 145) dX8_lift_145 rfl ?_
        refine q_goto (pc := 147) (tgt := 151) dX8_lift_147 (by decide) ?_
        refine q_istore_n (pc := 151) dX8_lift_151 (Nat.le_of_ble_eq_true rfl) ?_
        refine q_iload (pc := 152) dX8_lift_152 rfl ?_
        refine q_ifeqb (pc := 154) (tgt := 162) dX8_lift_154 (by decide) (fun h154 => ?_) (fun h154 => ?_)
        · refine q_iload_n (pc := 162) dX8_lift_162 rfl ?_
          refine q_istore_n (pc := 163) dX8_lift_163 (Nat.le_of_ble_eq_true rfl) ?_
          refine q_iinc (pc := 164) dX8_lift_164 rfl (Nat.le_of_ble_eq_true rfl) ?_
          refine q_goto (pc := 167) (tgt := 41) dX8_lift_167 (by decide) ?_
          first
          | contradiction
          | (have e : lZ f (k + 1) = lZ f k := lZ_n (Or.inl (by omega))
             have q := ih (k + 1) σ' (by omega) hF
             rw [e] at q
             exact q_locs _ [0, 1, 2, 5, 6] rfl q)
          | (have e : lZ f (k + 1) = lZ f k := lZ_n (Or.inr (by assumption))
             have q := ih (k + 1) σ4 (by omega) (hF.tt hFx)
             rw [e] at q
             exact q_locs _ [0, 1, 2, 5, 6] rfl q)
          | (have e := lZ_y (f := f) (k := k) (by omega) (by assumption)
             have q := ih (k + 1) σ4 (by omega) (hF.tt hFx)
             rw [e] at q
             exact q_locs _ [0, 1, 2, 5, 6] rfl q)
        · refine q_iload (pc := 157) dX8_lift_157 rfl ?_
          refine q_goto (pc := 159) (tgt := 163) dX8_lift_159 (by decide) ?_
          refine q_istore_n (pc := 163) dX8_lift_163 (Nat.le_of_ble_eq_true rfl) ?_
          refine q_iinc (pc := 164) dX8_lift_164 rfl (Nat.le_of_ble_eq_true rfl) ?_
          refine q_goto (pc := 167) (tgt := 41) dX8_lift_167 (by decide) ?_
          first
          | contradiction
          | (have e : lZ f (k + 1) = lZ f k := lZ_n (Or.inl (by omega))
             have q := ih (k + 1) σ' (by omega) hF
             rw [e] at q
             exact q_locs _ [0, 1, 2, 5, 6] rfl q)
          | (have e : lZ f (k + 1) = lZ f k := lZ_n (Or.inr (by assumption))
             have q := ih (k + 1) σ4 (by omega) (hF.tt hFx)
             rw [e] at q
             exact q_locs _ [0, 1, 2, 5, 6] rfl q)
          | (have e := lZ_y (f := f) (k := k) (by omega) (by assumption)
             have q := ih (k + 1) σ4 (by omega) (hF.tt hFx)
             rw [e] at q
             exact q_locs _ [0, 1, 2, 5, 6] rfl q)
    · refine q_iload (pc := 78) dX8_lift_78 rfl ?_
      refine q_iload_n (pc := 80) dX8_lift_80 rfl ?_
      refine q_icmpge (pc := 81) (tgt := 164) dX8_lift_81 (by decide) (by omega) (by omega) (fun h81 => ?_) (fun h81 => ?_)
      · refine q_iinc (pc := 164) dX8_lift_164 rfl (Nat.le_of_ble_eq_true rfl) ?_
        refine q_goto (pc := 167) (tgt := 41) dX8_lift_167 (by decide) ?_
        first
        | contradiction
        | (have e : lZ f (k + 1) = lZ f k := lZ_n (Or.inl (by omega))
           have q := ih (k + 1) σ' (by omega) hF
           rw [e] at q
           exact q_locs _ [0, 2, 3, 4, 5] rfl q)
        | (have e : lZ f (k + 1) = lZ f k := lZ_n (Or.inr (by assumption))
           have q := ih (k + 1) σ0 (by omega) (hF.tt hFx)
           rw [e] at q
           exact q_locs _ [0, 2, 3, 4, 5] rfl q)
        | (have e := lZ_y (f := f) (k := k) (by omega) (by assumption)
           have q := ih (k + 1) σ0 (by omega) (hF.tt hFx)
           rw [e] at q
           exact q_locs _ [0, 2, 3, 4, 5] rfl q)
      · refine q_aload_n (pc := 84) dX8_lift_84 rfl ?_
        refine q_V0v (pc := 85) dX8_lift_85 vX8_216 rfl rfl (Nat.le_of_ble_eq_true rfl) (Nat.le_of_ble_eq_true rfl) (t_X8_layThen hf) (fun σ6 hc6 => ?_)
        obtain ⟨hF6, hT6⟩ := hc6
        refine q_aload_n (pc := 88) dX8_lift_88 rfl ?_
        refine q_getR (pc := 89) dX8_lift_89 fX8_25 rfl rfl ?_
        refine q_iconst (pc := 92) dX8_lift_92 ?_
        refine q_iload (pc := 93) dX8_lift_93 rfl ?_
        refine q_sipush (pc := 95) dX8_lift_95 (by decide +kernel) ?_
        refine q_idiv (pc := 98) dX8_lift_98 (by omega) ?_
        refine q_S3v (pc := 99) dX8_lift_99 vX8_168 (Nat.le_of_ble_eq_true rfl) (Nat.le_of_ble_eq_true rfl) (t_X8_lifts sh88 hT6 hO (by omega) (by omega) (by omega)) (fun σ7 hc7 => ?_)
        obtain ⟨hFa, hTa, hOa⟩ := hc7
        refine q_aload_n (pc := 102) dX8_lift_102 rfl ?_
        refine q_getR (pc := 103) dX8_lift_103 fX8_25 rfl rfl ?_
        refine q_iconst (pc := 106) dX8_lift_106 ?_
        refine q_iload (pc := 107) dX8_lift_107 rfl ?_
        refine q_bipush (pc := 109) dX8_lift_109 (by decide +kernel) ?_
        refine q_idiv (pc := 111) dX8_lift_111 (by omega) ?_
        refine q_bipush (pc := 112) dX8_lift_112 (by decide +kernel) ?_
        refine q_irem (pc := 114) dX8_lift_114 (by omega) ?_
        refine q_S3v (pc := 115) dX8_lift_115 vX8_168 (Nat.le_of_ble_eq_true rfl) (Nat.le_of_ble_eq_true rfl) (t_X8_lifts sh88 hTa hOa (by omega) (by omega) (by omega)) (fun σ8 hc8 => ?_)
        obtain ⟨hFb, hTb, hOb⟩ := hc8
        refine q_aload_n (pc := 118) dX8_lift_118 rfl ?_
        refine q_getR (pc := 119) dX8_lift_119 fX8_25 rfl rfl ?_
        refine q_iconst (pc := 122) dX8_lift_122 ?_
        refine q_iload (pc := 123) dX8_lift_123 rfl ?_
        refine q_bipush (pc := 125) dX8_lift_125 (by decide +kernel) ?_
        refine q_irem (pc := 127) dX8_lift_127 (by omega) ?_
        refine q_S3v (pc := 128) dX8_lift_128 vX8_168 (Nat.le_of_ble_eq_true rfl) (Nat.le_of_ble_eq_true rfl) (t_X8_lifts sh88 hTb hOb (by omega) (by omega) (by omega)) (fun σ9 hc9 => ?_)
        obtain ⟨hFc, hTc, hOc⟩ := hc9
        have hFx := ((hF6.tt hFa).tt hFb).tt hFc
        refine q_aload_n (pc := 131) dX8_lift_131 rfl ?_
        refine q_getR (pc := 132) dX8_lift_132 fX8_25 rfl rfl ?_
        refine q_S1i (pc := 135) dX8_lift_135 vX8_210 (Nat.le_of_ble_eq_true rfl) (Nat.le_of_ble_eq_true rfl) (t_X8_isLevel sh88 hTc hOc hl.1 hl.2.1) (fun r10 σ10 hc10 => ?_)
        obtain ⟨rfl, rfl⟩ := hc10
        refine q_istore (pc := 138) dX8_lift_138 (Nat.le_of_ble_eq_true rfl) ?_
        refine q_iload (pc := 140) dX8_lift_140 rfl ?_
        refine q_ifeqb (pc := 142) (tgt := 150) dX8_lift_142 (by decide) (fun h142 => ?_) (fun h142 => ?_)
        · refine q_iload_n (pc := 150) dX8_lift_150 rfl ?_
          refine q_istore_n (pc := 151) dX8_lift_151 (Nat.le_of_ble_eq_true rfl) ?_
          refine q_iload (pc := 152) dX8_lift_152 rfl ?_
          refine q_ifeqb (pc := 154) (tgt := 162) dX8_lift_154 (by decide) (fun h154 => ?_) (fun h154 => ?_)
          · refine q_iload_n (pc := 162) dX8_lift_162 rfl ?_
            refine q_istore_n (pc := 163) dX8_lift_163 (Nat.le_of_ble_eq_true rfl) ?_
            refine q_iinc (pc := 164) dX8_lift_164 rfl (Nat.le_of_ble_eq_true rfl) ?_
            refine q_goto (pc := 167) (tgt := 41) dX8_lift_167 (by decide) ?_
            first
            | contradiction
            | (have e : lZ f (k + 1) = lZ f k := lZ_n (Or.inl (by omega))
               have q := ih (k + 1) σ' (by omega) hF
               rw [e] at q
               exact q_locs _ [0, 1, 2, 5, 6] rfl q)
            | (have e : lZ f (k + 1) = lZ f k := lZ_n (Or.inr (by assumption))
               have q := ih (k + 1) σ9 (by omega) (hF.tt hFx)
               rw [e] at q
               exact q_locs _ [0, 1, 2, 5, 6] rfl q)
            | (have e := lZ_y (f := f) (k := k) (by omega) (by assumption)
               have q := ih (k + 1) σ9 (by omega) (hF.tt hFx)
               rw [e] at q
               exact q_locs _ [0, 1, 2, 5, 6] rfl q)
          · refine q_iload (pc := 157) dX8_lift_157 rfl ?_
            refine q_goto (pc := 159) (tgt := 163) dX8_lift_159 (by decide) ?_
            refine q_istore_n (pc := 163) dX8_lift_163 (Nat.le_of_ble_eq_true rfl) ?_
            refine q_iinc (pc := 164) dX8_lift_164 rfl (Nat.le_of_ble_eq_true rfl) ?_
            refine q_goto (pc := 167) (tgt := 41) dX8_lift_167 (by decide) ?_
            first
            | contradiction
            | (have e : lZ f (k + 1) = lZ f k := lZ_n (Or.inl (by omega))
               have q := ih (k + 1) σ' (by omega) hF
               rw [e] at q
               exact q_locs _ [0, 1, 2, 5, 6] rfl q)
            | (have e : lZ f (k + 1) = lZ f k := lZ_n (Or.inr (by assumption))
               have q := ih (k + 1) σ9 (by omega) (hF.tt hFx)
               rw [e] at q
               exact q_locs _ [0, 1, 2, 5, 6] rfl q)
            | (have e := lZ_y (f := f) (k := k) (by omega) (by assumption)
               have q := ih (k + 1) σ9 (by omega) (hF.tt hFx)
               rw [e] at q
               exact q_locs _ [0, 1, 2, 5, 6] rfl q)
        · refine q_iload (pc := 145) dX8_lift_145 rfl ?_
          refine q_goto (pc := 147) (tgt := 151) dX8_lift_147 (by decide) ?_
          refine q_istore_n (pc := 151) dX8_lift_151 (Nat.le_of_ble_eq_true rfl) ?_
          refine q_iload (pc := 152) dX8_lift_152 rfl ?_
          refine q_ifeqb (pc := 154) (tgt := 162) dX8_lift_154 (by decide) (fun h154 => ?_) (fun h154 => ?_)
          · refine q_iload_n (pc := 162) dX8_lift_162 rfl ?_
            refine q_istore_n (pc := 163) dX8_lift_163 (Nat.le_of_ble_eq_true rfl) ?_
            refine q_iinc (pc := 164) dX8_lift_164 rfl (Nat.le_of_ble_eq_true rfl) ?_
            refine q_goto (pc := 167) (tgt := 41) dX8_lift_167 (by decide) ?_
            first
            | contradiction
            | (have e : lZ f (k + 1) = lZ f k := lZ_n (Or.inl (by omega))
               have q := ih (k + 1) σ' (by omega) hF
               rw [e] at q
               exact q_locs _ [0, 1, 2, 5, 6] rfl q)
            | (have e : lZ f (k + 1) = lZ f k := lZ_n (Or.inr (by assumption))
               have q := ih (k + 1) σ9 (by omega) (hF.tt hFx)
               rw [e] at q
               exact q_locs _ [0, 1, 2, 5, 6] rfl q)
            | (have e := lZ_y (f := f) (k := k) (by omega) (by assumption)
               have q := ih (k + 1) σ9 (by omega) (hF.tt hFx)
               rw [e] at q
               exact q_locs _ [0, 1, 2, 5, 6] rfl q)
          · refine q_iload (pc := 157) dX8_lift_157 rfl ?_
            refine q_goto (pc := 159) (tgt := 163) dX8_lift_159 (by decide) ?_
            refine q_istore_n (pc := 163) dX8_lift_163 (Nat.le_of_ble_eq_true rfl) ?_
            refine q_iinc (pc := 164) dX8_lift_164 rfl (Nat.le_of_ble_eq_true rfl) ?_
            refine q_goto (pc := 167) (tgt := 41) dX8_lift_167 (by decide) ?_
            first
            | contradiction
            | (have e : lZ f (k + 1) = lZ f k := lZ_n (Or.inl (by omega))
               have q := ih (k + 1) σ' (by omega) hF
               rw [e] at q
               exact q_locs _ [0, 1, 2, 5, 6] rfl q)
            | (have e : lZ f (k + 1) = lZ f k := lZ_n (Or.inr (by assumption))
               have q := ih (k + 1) σ9 (by omega) (hF.tt hFx)
               rw [e] at q
               exact q_locs _ [0, 1, 2, 5, 6] rfl q)
            | (have e := lZ_y (f := f) (k := k) (by omega) (by assumption)
               have q := ih (k + 1) σ9 (by omega) (hF.tt hFx)
               rw [e] at q
               exact q_locs _ [0, 1, 2, 5, 6] rfl q)
theorem m_lift {w : Int} (hM : MR σ A) (hV : AV A) (hw : -2147483648 ≤ w ∧ w ≤ 2147483647) : qE G mX8_lift (d + 4) 0 [(0, vr 82), (1, vi w)] [] σ (ri (pM σ (s_lift A w))) := by
  have hR := hV.1
  have h01 := hR.f0
  refine q_aload_n (pc := 0) dX8_lift_0 rfl ?_
  refine q_iconst (pc := 1) dX8_lift_1 ?_
  refine q_pI (pc := 2) 0 dX8_lift_2 wX8_50 rfl rfl rfl ?_
  have hM := hM.fld (i := 0) (v := 0) (by decide)
  have hF0 : ∀ j, j < 82 → up σ 82 0 0 j = σ j := fun j hj => up_ne (by omega)
  generalize up σ 82 0 0 = τ at hM hF0 ⊢
  refine q_aload_n (pc := 5) dX8_lift_5 rfl ?_
  refine q_V0i (pc := 6) dX8_lift_6 vX8_184 rfl rfl (Nat.le_of_ble_eq_true rfl) (Nat.le_of_ble_eq_true rfl) (t_X8_isThere hM.1 h01) (fun r1 σ1 hc1 => ?_)
  obtain ⟨rfl, rfl⟩ := hc1
  refine q_ifneb (pc := 9) (tgt := 15) dX8_lift_9 (by decide) (fun h9 => ?_) (fun h9 => ?_)
  · refine q_iload_n (pc := 15) dX8_lift_15 rfl ?_
    refine q_i2l (pc := 16) dX8_lift_16 (by omega) ?_
    refine q_ldc2 (pc := 17) (n := -1) kX8_239 dX8_lift_17 ?_
    refine q_ldc2 (pc := 20) (n := 2) kX8_68 dX8_lift_20 ?_
    refine q_S3i (pc := 23) dX8_lift_23 vX8_60 (Nat.le_of_ble_eq_true rfl) (Nat.le_of_ble_eq_true rfl) (t_X8_in (by omega) (by omega) (by omega)) (fun r2 σ2 hc2 => ?_)
    obtain ⟨rfl, rfl⟩ := hc2
    refine q_ifneb (pc := 26) (tgt := 32) dX8_lift_26 (by decide) (fun h26 => ?_) (fun h26 => ?_)
    · refine q_ldc (pc := 32) (n := -1000000) kX8_93 dX8_lift_32 ?_
      refine q_istore_n (pc := 34) dX8_lift_34 (Nat.le_of_ble_eq_true rfl) ?_
      refine q_ldc (pc := 35) (n := -1000000) kX8_93 dX8_lift_35 ?_
      refine q_istore_n (pc := 37) dX8_lift_37 (Nat.le_of_ble_eq_true rfl) ?_
      refine q_iconst (pc := 38) dX8_lift_38 ?_
      refine q_istore (pc := 39) dX8_lift_39 (Nat.le_of_ble_eq_true rfl) ?_
      refine q_mono (fun v σ' h => ?_) (m_lift_l hM.1 hR (by omega) (by omega) 9261 0 τ rfl Fr.rf)
      obtain ⟨x, h1, h2, h3⟩ := h
      refine ⟨x, h1, pM.q hF0 hM h3 (scr_im (by decide)) ?_⟩
      rw [if_pos (by omega), if_pos (by omega)]
      exact h2
    · refine q_ldc (pc := 29) (n := -1000001) kX8_70 dX8_lift_29 ?_
      refine q_ri (pc := 31) dX8_lift_31 rfl ?_
      refine pM.q0 hF0 hM ?_
      repeat' (first | rw [if_neg (by omega)] | rw [if_pos (by omega)])
  · refine q_ldc (pc := 12) (n := -1000002) kX8_187 dX8_lift_12 ?_
    refine q_ri (pc := 14) dX8_lift_14 rfl ?_
    refine pM.q0 hF0 hM ?_
    repeat' (first | rw [if_neg (by omega)] | rw [if_pos (by omega)])
end T8
