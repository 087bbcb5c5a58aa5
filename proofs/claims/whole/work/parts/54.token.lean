/-! ===== the reference: tokens ===== -/
section T8
variable {G : qGl} {d : Nat} {σ : qM} {tp : Int → Int} {tl : Int} {s : Int × Int}
/-- the tape of the reference -/
def MT (σ : qM) (tp : Int → Int) (tl : Int) : Prop := σ 82 11 = tl ∧ ∀ j, 0 ≤ j → j < tl → σ 90 j = tp j
/-- the token that begins at p has been read -/
def tok (σ : qM) (tp : Int → Int) (tl p : Int) : Prop := σ 82 13 = p ∧
  (tl ≤ p → σ 82 14 = 1 ∧ σ 82 12 = p) ∧
  (p < tl → 97 ≤ tp p ∧ tp p ≤ 122 → σ 82 14 = 2 ∧ σ 82 15 = tp p ∧ σ 82 12 = p + 1) ∧
  (p < tl → 48 ≤ tp p ∧ tp p ≤ 57 → σ 82 14 = (if dg tp tl 120 p ≤ 2 then 3 else 0) ∧ σ 82 15 = nv tp p (dg tp tl 120 p) ∧ σ 82 12 = p + dg tp tl 120 p) ∧
  (p < tl → tp p = 44 ∨ tp p = 59 → σ 82 14 = 4 ∧ σ 82 15 = tp p ∧ σ 82 12 = p + 1) ∧
  (p < tl → ¬ (97 ≤ tp p ∧ tp p ≤ 122) → ¬ (48 ≤ tp p ∧ tp p ≤ 57) → ¬ (tp p = 44 ∨ tp p = 59) → σ 82 14 = 0) ∧
  (-1000000 ≤ σ 82 15 ∧ σ 82 15 ≤ 1000)
def F4 (σ σ1 : qM) : Prop := Fr σ σ1 [82] ∧ ∀ i, i < 12 ∨ 15 < i → σ1 82 i = σ 82 i
theorem F4.rf : F4 σ σ := ⟨Fr.rf, fun _ _ => rfl⟩
theorem F4.tt {σ1 σ2 : qM} (h1 : F4 σ σ1) (h2 : F4 σ1 σ2) : F4 σ σ2 := ⟨h1.1.tt h2.1, fun i hi => by rw [h2.2 i hi, h1.2 i hi]⟩
theorem F4.up {i v : Int} (h : 12 ≤ i ∧ i ≤ 15) : F4 σ (up σ 82 i v) := ⟨Fr.up (by simp), fun j hj => by rw [up_same, if_neg (by omega)]⟩
theorem F4.mt {σ1 : qM} (h : F4 σ σ1) (hm : MT σ tp tl) : MT σ1 tp tl := by
  unfold MT
  rw [h.2 11 (by omega), h.1 90 (by simp)]
  exact hm
theorem nv_rng {p : Int} {k : Nat} (hd : ∀ j : Nat, j < k → isd tp tl (p + j)) : -1000000 ≤ nv tp p k ∧ nv tp p k ≤ 1000 := by
  have q : ∀ j : Nat, j < k → 48 ≤ tp (p + j) ∧ tp (p + j) ≤ 57 := fun j hj => (hd j hj).2
  rcases Nat.eq_zero_or_pos k with z | z
  · subst z; rw [show ((0 : Nat) : Int) = 0 from rfl, nv_0]; omega
  · have q0 := q 0 z
    rw [show p + ((0 : Nat) : Int) = p by omega] at q0
    rcases (show k = 1 ∨ 2 ≤ k by omega) with y | y
    · subst y; rw [show ((1 : Nat) : Int) = 1 from rfl, nv_1]; omega
    · have q1 := q 1 (by omega)
      rw [show p + ((1 : Nat) : Int) = p + 1 from rfl] at q1
      rw [nv_2 (by omega)]; omega
theorem m_tok_l (hK : TK tp tl) {p : Int} (hp : 0 ≤ p ∧ p < tl) (hd0 : 48 ≤ tp p ∧ tp p ≤ 57) : ∀ (m k : Nat) (σ' : qM), p + k + m = tl → 1 ≤ k → (∀ j : Nat, j < k → isd tp tl (p + j)) → F4 σ σ' → MT σ' tp tl → σ' 82 12 = p + k → σ' 82 13 = p → σ' 82 15 = nv tp p k → qE G mX8_nextToken (d + 1) 165 [(0, vr 82)] [] σ' (rv fun σ1 => tok σ1 tp tl p ∧ F4 σ σ1) := by
  have hk := hK.1
  have fin : ∀ (k : Nat) (σ' : qM), p + k ≤ tl → 1 ≤ k → (∀ j : Nat, j < k → isd tp tl (p + j)) → ¬ isd tp tl (p + k) → F4 σ σ' → σ' 82 12 = p + k → σ' 82 13 = p → σ' 82 15 = nv tp p k → qE G mX8_nextToken (d + 1) 255 [(0, vr 82)] [] σ' (rv fun σ1 => tok σ1 tp tl p ∧ F4 σ σ1) := by
    intro k σ' hkl h1 hd hn hF c12 c13 c15
    have ed := dg_eq (m := 120) (k := k) (p := p) (by omega) hd hn
    refine q_aload_n (pc := 255) dX8_nextToken_255 rfl ?_
    refine q_aload_n (pc := 256) dX8_nextToken_256 rfl ?_
    refine q_gI (pc := 257) 12 dX8_nextToken_257 fX8_90 rfl rfl rfl ?_
    refine q_aload_n (pc := 260) dX8_nextToken_260 rfl ?_
    refine q_gI (pc := 261) 13 dX8_nextToken_261 fX8_84 rfl rfl rfl ?_
    refine q_isub (pc := 264) dX8_nextToken_264 ?_
    refine q_iconst (pc := 265) dX8_nextToken_265 ?_
    refine q_icmple (pc := 266) (tgt := 273) dX8_nextToken_266 (by decide) (by omega) (by omega) (fun h266 => ?_) (fun h266 => ?_)
    · refine q_iconst (pc := 273) dX8_nextToken_273 ?_
      refine q_pI (pc := 274) 14 dX8_nextToken_274 wX8_105 rfl rfl rfl ?_
      refine q_rv (pc := 277) dX8_nextToken_277 rfl ?_
      refine ⟨⟨?_, fun z => by omega, fun _ z => by omega, fun _ _ => ⟨?_, ?_, ?_⟩, fun _ z => by omega, fun _ _ z => absurd hd0 z, by rw [up_same, if_neg (by omega), c15]; exact nv_rng hd⟩, hF.tt (F4.up (by omega))⟩
      · rw [up_same, if_neg (by omega)]; exact c13
      · rw [up_same, if_pos rfl, ed]
        first | (rw [if_pos (by omega)]; done) | (rw [if_neg (by omega)]; done)
      · rw [up_same, if_neg (by omega), ed]; exact c15
      · rw [up_same, if_neg (by omega), ed]; exact c12
    · refine q_iconst (pc := 269) dX8_nextToken_269 ?_
      refine q_goto (pc := 270) (tgt := 274) dX8_nextToken_270 (by decide) ?_
      refine q_pI (pc := 274) 14 dX8_nextToken_274 wX8_105 rfl rfl rfl ?_
      refine q_rv (pc := 277) dX8_nextToken_277 rfl ?_
      refine ⟨⟨?_, fun z => by omega, fun _ z => by omega, fun _ _ => ⟨?_, ?_, ?_⟩, fun _ z => by omega, fun _ _ z => absurd hd0 z, by rw [up_same, if_neg (by omega), c15]; exact nv_rng hd⟩, hF.tt (F4.up (by omega))⟩
      · rw [up_same, if_neg (by omega)]; exact c13
      · rw [up_same, if_pos rfl, ed]
        first | (rw [if_pos (by omega)]; done) | (rw [if_neg (by omega)]; done)
      · rw [up_same, if_neg (by omega), ed]; exact c15
      · rw [up_same, if_neg (by omega), ed]; exact c12
  intro m
  induction m with
  | zero =>
    intro k σ' hm h1 hd hF hM c12 c13 c15
    have c11 := hM.1
    refine q_aload_n (pc := 165) dX8_nextToken_165 rfl ?_
    refine q_gI (pc := 166) 12 dX8_nextToken_166 fX8_90 rfl rfl rfl ?_
    refine q_aload_n (pc := 169) dX8_nextToken_169 rfl ?_
    refine q_gI (pc := 170) 11 dX8_nextToken_170 fX8_77 rfl rfl rfl ?_
    refine q_icmpge (pc := 173) (tgt := 255) dX8_nextToken_173 (by decide) (by omega) (by omega) (fun h173 => ?_) (fun h => absurd h (by omega))
    exact fin k σ' (by omega) h1 hd (fun z => by have := z.1; omega) hF c12 c13 c15
  | succ m ih =>
    intro k σ' hm h1 hd hF hM c12 c13 c15
    have c11 := hM.1
    have tb : σ' 90 (σ' 82 12) = tp (p + k) := by rw [c12]; exact hM.2 (p + k) (by omega) (by omega)
    have hb := hK.2 (p + k) (by omega) (by omega)
    refine q_aload_n (pc := 165) dX8_nextToken_165 rfl ?_
    refine q_gI (pc := 166) 12 dX8_nextToken_166 fX8_90 rfl rfl rfl ?_
    refine q_aload_n (pc := 169) dX8_nextToken_169 rfl ?_
    refine q_gI (pc := 170) 11 dX8_nextToken_170 fX8_77 rfl rfl rfl ?_
    refine q_icmpge (pc := 173) (tgt := 255) dX8_nextToken_173 (by decide) (by omega) (by omega) (fun h => absurd h (by omega)) (fun h173 => ?_)
    refine q_aload_n (pc := 176) dX8_nextToken_176 rfl ?_
    refine q_getR (pc := 177) dX8_nextToken_177 fX8_31 rfl rfl ?_
    refine q_aload_n (pc := 180) dX8_nextToken_180 rfl ?_
    refine q_gI (pc := 181) 12 dX8_nextToken_181 fX8_90 rfl rfl rfl ?_
    refine q_iald (pc := 184) dX8_nextToken_184 rfl (by omega) ?_
    refine q_i2l (pc := 185) dX8_nextToken_185 (by omega) ?_
    refine q_ldc2 (pc := 186) (n := 48) kX8_101 dX8_nextToken_186 ?_
    refine q_ldc2 (pc := 189) (n := 57) kX8_103 dX8_nextToken_189 ?_
    refine q_S3i (pc := 192) dX8_nextToken_192 vX8_60 (Nat.le_of_ble_eq_true rfl) (Nat.le_of_ble_eq_true rfl) (t_X8_in (by omega) (by omega) (by omega)) (fun r1 σ1 hc1 => ?_)
    obtain ⟨rfl, rfl⟩ := hc1
    refine q_ifeqb (pc := 195) (tgt := 255) dX8_nextToken_195 (by decide) (fun h195 => ?_) (fun h195 => ?_)
    · exact fin k σ' (by omega) h1 hd (fun z => by have := z.2; omega) hF c12 c13 c15
    · refine q_aload_n (pc := 198) dX8_nextToken_198 rfl ?_
      refine q_aload_n (pc := 199) dX8_nextToken_199 rfl ?_
      refine q_gI (pc := 200) 12 dX8_nextToken_200 fX8_90 rfl rfl rfl ?_
      refine q_aload_n (pc := 203) dX8_nextToken_203 rfl ?_
      refine q_gI (pc := 204) 13 dX8_nextToken_204 fX8_84 rfl rfl rfl ?_
      refine q_isub (pc := 207) dX8_nextToken_207 ?_
      refine q_iconst (pc := 208) dX8_nextToken_208 ?_
      refine q_icmpge (pc := 209) (tgt := 235) dX8_nextToken_209 (by decide) (by omega) (by omega) (fun h209 => ?_) (fun h209 => ?_)
      · refine q_aload_n (pc := 235) dX8_nextToken_235 rfl ?_
        refine q_gI (pc := 236) 15 dX8_nextToken_236 fX8_94 rfl rfl rfl ?_
        refine q_pI (pc := 239) 15 dX8_nextToken_239 wX8_94 rfl rfl rfl ?_
        refine q_aload_n (pc := 242) dX8_nextToken_242 rfl ?_
        refine q_dup (pc := 243) dX8_nextToken_243 rfl ?_
        refine q_gI (pc := 244) 12 dX8_nextToken_244 fX8_90 rfl rfl rfl ?_
        refine q_iconst (pc := 247) dX8_nextToken_247 ?_
        refine q_iadd (pc := 248) dX8_nextToken_248 ?_
        refine q_pI (pc := 249) 12 dX8_nextToken_249 wX8_90 rfl rfl rfl ?_
        refine q_goto (pc := 252) (tgt := 165) dX8_nextToken_252 (by decide) ?_
        have hz : isd tp tl (p + k) := ⟨by omega, by omega, by omega⟩
        have hdd : ∀ j : Nat, j < k + 1 → isd tp tl (p + j) := fun j hj => by
          by_cases c : j = k
          · rw [c]; exact hz
          · exact hd j (by omega)
        first
        | (refine ih (k + 1) _ (by push_cast; omega) (by omega) hdd (hF.tt ((F4.up (i := 15) (by omega)).tt (F4.up (i := 12) (by omega)))) (F4.mt ((F4.up (i := 15) (by omega)).tt (F4.up (i := 12) (by omega))) hM) ?_ ?_ ?_
           · rw [up_same, if_pos rfl, up_same, if_neg (by omega), c12]; push_cast; omega
           · rw [up_same, if_neg (by omega), up_same, if_neg (by omega)]; exact c13
           · rw [up_same, if_neg (by omega), up_same, if_pos rfl, c15, tb]
             have ek : k = 1 := by omega
             subst ek
             rw [show ((1 : Nat) : Int) = 1 from rfl, nv_1, nv_2 (by omega)]
             omega)
        | (refine ih (k + 1) _ (by push_cast; omega) (by omega) hdd (hF.tt ((F4.up (i := 15) (by omega)).tt (F4.up (i := 12) (by omega)))) (F4.mt ((F4.up (i := 15) (by omega)).tt (F4.up (i := 12) (by omega))) hM) ?_ ?_ ?_
           · rw [up_same, if_pos rfl, up_same, if_neg (by omega), c12]; push_cast; omega
           · rw [up_same, if_neg (by omega), up_same, if_neg (by omega)]; exact c13
           · rw [up_same, if_neg (by omega), up_same, if_pos rfl, c15, nv_2 (by omega), nv_2 (by omega)])
      · refine q_bipush (pc := 212) dX8_nextToken_212 (by decide +kernel) ?_
        refine q_aload_n (pc := 214) dX8_nextToken_214 rfl ?_
        refine q_gI (pc := 215) 15 dX8_nextToken_215 fX8_94 rfl rfl rfl ?_
        refine q_imul (pc := 218) dX8_nextToken_218 ?_
        refine q_aload_n (pc := 219) dX8_nextToken_219 rfl ?_
        refine q_getR (pc := 220) dX8_nextToken_220 fX8_31 rfl rfl ?_
        refine q_aload_n (pc := 223) dX8_nextToken_223 rfl ?_
        refine q_gI (pc := 224) 12 dX8_nextToken_224 fX8_90 rfl rfl rfl ?_
        refine q_iald (pc := 227) dX8_nextToken_227 rfl (by omega) ?_
        refine q_iadd (pc := 228) dX8_nextToken_228 ?_
        refine q_bipush (pc := 229) dX8_nextToken_229 (by decide +kernel) ?_
        refine q_isub (pc := 231) dX8_nextToken_231 ?_
        refine q_goto (pc := 232) (tgt := 239) dX8_nextToken_232 (by decide) ?_
        refine q_pI (pc := 239) 15 dX8_nextToken_239 wX8_94 rfl rfl rfl ?_
        refine q_aload_n (pc := 242) dX8_nextToken_242 rfl ?_
        refine q_dup (pc := 243) dX8_nextToken_243 rfl ?_
        refine q_gI (pc := 244) 12 dX8_nextToken_244 fX8_90 rfl rfl rfl ?_
        refine q_iconst (pc := 247) dX8_nextToken_247 ?_
        refine q_iadd (pc := 248) dX8_nextToken_248 ?_
        refine q_pI (pc := 249) 12 dX8_nextToken_249 wX8_90 rfl rfl rfl ?_
        refine q_goto (pc := 252) (tgt := 165) dX8_nextToken_252 (by decide) ?_
        have hz : isd tp tl (p + k) := ⟨by omega, by omega, by omega⟩
        have hdd : ∀ j : Nat, j < k + 1 → isd tp tl (p + j) := fun j hj => by
          by_cases c : j = k
          · rw [c]; exact hz
          · exact hd j (by omega)
        first
        | (refine ih (k + 1) _ (by push_cast; omega) (by omega) hdd (hF.tt ((F4.up (i := 15) (by omega)).tt (F4.up (i := 12) (by omega)))) (F4.mt ((F4.up (i := 15) (by omega)).tt (F4.up (i := 12) (by omega))) hM) ?_ ?_ ?_
           · rw [up_same, if_pos rfl, up_same, if_neg (by omega), c12]; push_cast; omega
           · rw [up_same, if_neg (by omega), up_same, if_neg (by omega)]; exact c13
           · rw [up_same, if_neg (by omega), up_same, if_pos rfl, c15, tb]
             have ek : k = 1 := by omega
             subst ek
             rw [show ((1 : Nat) : Int) = 1 from rfl, nv_1, nv_2 (by omega)]
             omega)
        | (refine ih (k + 1) _ (by push_cast; omega) (by omega) hdd (hF.tt ((F4.up (i := 15) (by omega)).tt (F4.up (i := 12) (by omega)))) (F4.mt ((F4.up (i := 15) (by omega)).tt (F4.up (i := 12) (by omega))) hM) ?_ ?_ ?_
           · rw [up_same, if_pos rfl, up_same, if_neg (by omega), c12]; push_cast; omega
           · rw [up_same, if_neg (by omega), up_same, if_neg (by omega)]; exact c13
           · rw [up_same, if_neg (by omega), up_same, if_pos rfl, c15, nv_2 (by omega), nv_2 (by omega)])
theorem m_next {p : Int} (hK : TK tp tl) (hM : MT σ tp tl) (hp : σ 82 12 = p) (h0 : 0 ≤ p ∧ p ≤ tl) : qE G mX8_nextToken (d + 2) 0 [(0, vr 82)] [] σ (rv fun σ1 => tok σ1 tp tl p ∧ F4 σ σ1) := by
  have hk := hK.1
  have c11 := hM.1
  by_cases c : p < tl
  · have hb := hK.2 p (by omega) c
    rcases (show (97 ≤ tp p ∧ tp p ≤ 122) ∨ (48 ≤ tp p ∧ tp p ≤ 57) ∨ tp p = 44 ∨ tp p = 59 ∨ (¬ (97 ≤ tp p ∧ tp p ≤ 122) ∧ ¬ (48 ≤ tp p ∧ tp p ≤ 57) ∧ ¬ (tp p = 44 ∨ tp p = 59)) by omega) with y | y | y | y | y
    · skip
      refine q_aload_n (pc := 0) dX8_nextToken_0 rfl ?_
      refine q_aload_n (pc := 1) dX8_nextToken_1 rfl ?_
      refine q_gI (pc := 2) 12 dX8_nextToken_2 fX8_90 rfl rfl rfl ?_
      refine q_pI (pc := 5) 13 dX8_nextToken_5 wX8_84 rfl rfl rfl ?_
      have h12 : up σ 82 13 (σ 82 12) 82 12 = p := by rw [up_same, if_neg (by omega)]; exact hp
      have h11 : up σ 82 13 (σ 82 12) 82 11 = tl := by rw [up_same, if_neg (by omega)]; exact c11
      have h13 : up σ 82 13 (σ 82 12) 82 13 = p := by rw [up_same, if_pos rfl]; exact hp
      have hFa : F4 σ (up σ 82 13 (σ 82 12)) := F4.up (by omega)
      have hMa := hFa.mt hM
      generalize up σ 82 13 (σ 82 12) = τ at h12 h11 h13 hFa hMa ⊢
      refine q_aload_n (pc := 8) dX8_nextToken_8 rfl ?_
      refine q_aload_n (pc := 9) dX8_nextToken_9 rfl ?_
      refine q_gI (pc := 10) 12 dX8_nextToken_10 fX8_90 rfl rfl rfl ?_
      refine q_aload_n (pc := 13) dX8_nextToken_13 rfl ?_
      refine q_gI (pc := 14) 11 dX8_nextToken_14 fX8_77 rfl rfl rfl ?_
      refine q_icmpge (pc := 17) (tgt := 32) dX8_nextToken_17 (by decide) (by omega) (by omega) (fun h => absurd h (by omega)) (fun h17 => ?_)
      refine q_aload_n (pc := 20) dX8_nextToken_20 rfl ?_
      refine q_getR (pc := 21) dX8_nextToken_21 fX8_31 rfl rfl ?_
      refine q_aload_n (pc := 24) dX8_nextToken_24 rfl ?_
      refine q_gI (pc := 25) 12 dX8_nextToken_25 fX8_90 rfl rfl rfl ?_
      refine q_iald (pc := 28) dX8_nextToken_28 rfl (by omega) ?_
      refine q_goto (pc := 29) (tgt := 34) dX8_nextToken_29 (by decide) ?_
      have tb : τ 90 (τ 82 12) = tp p := by rw [h12]; exact hMa.2 p (by omega) c
      rw [tb]
      refine q_pI (pc := 34) 15 dX8_nextToken_34 wX8_94 rfl rfl rfl ?_
      have k12 : up τ 82 15 (tp p) 82 12 = p := by rw [up_same, if_neg (by omega)]; exact h12
      have k11 : up τ 82 15 (tp p) 82 11 = tl := by rw [up_same, if_neg (by omega)]; exact h11
      have k13 : up τ 82 15 (tp p) 82 13 = p := by rw [up_same, if_neg (by omega)]; exact h13
      have k15 : up τ 82 15 (tp p) 82 15 = tp p := by rw [up_same, if_pos rfl]
      have hFb : F4 σ (up τ 82 15 (tp p)) := hFa.tt (F4.up (by omega))
      generalize up τ 82 15 (tp p) = τ1 at k12 k11 k13 k15 hFb ⊢
      refine q_aload_n (pc := 37) dX8_nextToken_37 rfl ?_
      refine q_aload_n (pc := 38) dX8_nextToken_38 rfl ?_
      refine q_gI (pc := 39) 12 dX8_nextToken_39 fX8_90 rfl rfl rfl ?_
      refine q_aload_n (pc := 42) dX8_nextToken_42 rfl ?_
      refine q_gI (pc := 43) 11 dX8_nextToken_43 fX8_77 rfl rfl rfl ?_
      refine q_icmpne (pc := 46) (tgt := 53) dX8_nextToken_46 (by decide) (by omega) (by omega) (fun h46 => ?_) (fun h => absurd h (by omega))
      refine q_aload_n (pc := 53) dX8_nextToken_53 rfl ?_
      refine q_gI (pc := 54) 15 dX8_nextToken_54 fX8_94 rfl rfl rfl ?_
      refine q_i2l (pc := 57) dX8_nextToken_57 (by omega) ?_
      refine q_ldc2 (pc := 58) (n := 97) kX8_97 dX8_nextToken_58 ?_
      refine q_ldc2 (pc := 61) (n := 122) kX8_99 dX8_nextToken_61 ?_
      refine q_S3i (pc := 64) dX8_nextToken_64 vX8_60 (Nat.le_of_ble_eq_true rfl) (Nat.le_of_ble_eq_true rfl) (t_X8_in (by omega) (by omega) (by omega)) (fun r1 σ1 hc1 => ?_)
      obtain ⟨rfl, rfl⟩ := hc1
      refine q_ifeqb (pc := 67) (tgt := 74) dX8_nextToken_67 (by decide) (fun h => absurd h (by first | omega | simp_all)) (fun h67 => ?_)
      refine q_iconst (pc := 70) dX8_nextToken_70 ?_
      refine q_goto (pc := 71) (tgt := 118) dX8_nextToken_71 (by decide) ?_
      refine q_pI (pc := 118) 14 dX8_nextToken_118 wX8_105 rfl rfl rfl ?_
      have m12 : up τ1 82 14 2 82 12 = p := by rw [up_same, if_neg (by omega)]; exact k12
      have m11 : up τ1 82 14 2 82 11 = tl := by rw [up_same, if_neg (by omega)]; exact k11
      have m13 : up τ1 82 14 2 82 13 = p := by rw [up_same, if_neg (by omega)]; exact k13
      have m15 : up τ1 82 14 2 82 15 = tp p := by rw [up_same, if_neg (by omega)]; exact k15
      have m14 : up τ1 82 14 2 82 14 = 2 := by rw [up_same, if_pos rfl]
      have hFc : F4 σ (up τ1 82 14 2) := hFb.tt (F4.up (by omega))
      generalize up τ1 82 14 2 = τ2 at m12 m11 m13 m15 m14 hFc ⊢
      refine q_aload_n (pc := 121) dX8_nextToken_121 rfl ?_
      refine q_dup (pc := 122) dX8_nextToken_122 rfl ?_
      refine q_gI (pc := 123) 12 dX8_nextToken_123 fX8_90 rfl rfl rfl ?_
      refine q_aload_n (pc := 126) dX8_nextToken_126 rfl ?_
      refine q_gI (pc := 127) 12 dX8_nextToken_127 fX8_90 rfl rfl rfl ?_
      refine q_aload_n (pc := 130) dX8_nextToken_130 rfl ?_
      refine q_gI (pc := 131) 11 dX8_nextToken_131 fX8_77 rfl rfl rfl ?_
      refine q_icmpge (pc := 134) (tgt := 141) dX8_nextToken_134 (by decide) (by omega) (by omega) (fun h => absurd h (by omega)) (fun h134 => ?_)
      refine q_iconst (pc := 137) dX8_nextToken_137 ?_
      refine q_goto (pc := 138) (tgt := 142) dX8_nextToken_138 (by decide) ?_
      refine q_iadd (pc := 142) dX8_nextToken_142 ?_
      refine q_pI (pc := 143) 12 dX8_nextToken_143 wX8_90 rfl rfl rfl ?_
      have n12 : up τ2 82 12 (τ2 82 12 + 1) 82 12 = p + 1 := by rw [up_same, if_pos rfl, m12]
      have n11 : up τ2 82 12 (τ2 82 12 + 1) 82 11 = tl := by rw [up_same, if_neg (by omega)]; exact m11
      have n13 : up τ2 82 12 (τ2 82 12 + 1) 82 13 = p := by rw [up_same, if_neg (by omega)]; exact m13
      have n15 : up τ2 82 12 (τ2 82 12 + 1) 82 15 = tp p := by rw [up_same, if_neg (by omega)]; exact m15
      have n14 : up τ2 82 12 (τ2 82 12 + 1) 82 14 = 2 := by rw [up_same, if_neg (by omega)]; exact m14
      have hFd : F4 σ (up τ2 82 12 (τ2 82 12 + 1)) := hFc.tt (F4.up (by omega))
      generalize up τ2 82 12 (τ2 82 12 + 1) = τ3 at n12 n11 n13 n15 n14 hFd ⊢
      refine q_aload_n (pc := 146) dX8_nextToken_146 rfl ?_
      refine q_gI (pc := 147) 14 dX8_nextToken_147 fX8_105 rfl rfl rfl ?_
      refine q_iconst (pc := 150) dX8_nextToken_150 ?_
      refine q_icmpne (pc := 151) (tgt := 277) dX8_nextToken_151 (by decide) (by omega) (by omega) (fun h151 => ?_) (fun h => absurd h (by omega))
      refine q_rv (pc := 277) dX8_nextToken_277 rfl ?_
      exact ⟨⟨n13, fun z => by omega, fun _ z => by first | exact ⟨n14, n15, n12⟩ | (exfalso; omega), fun _ z => by exfalso; omega, fun _ z => by first | exact ⟨n14, n15, n12⟩ | (exfalso; omega), fun _ z1 z2 z3 => by first | exact n14 | (exfalso; omega), by rw [n15]; omega⟩, hFd⟩
    · skip
      refine q_aload_n (pc := 0) dX8_nextToken_0 rfl ?_
      refine q_aload_n (pc := 1) dX8_nextToken_1 rfl ?_
      refine q_gI (pc := 2) 12 dX8_nextToken_2 fX8_90 rfl rfl rfl ?_
      refine q_pI (pc := 5) 13 dX8_nextToken_5 wX8_84 rfl rfl rfl ?_
      have h12 : up σ 82 13 (σ 82 12) 82 12 = p := by rw [up_same, if_neg (by omega)]; exact hp
      have h11 : up σ 82 13 (σ 82 12) 82 11 = tl := by rw [up_same, if_neg (by omega)]; exact c11
      have h13 : up σ 82 13 (σ 82 12) 82 13 = p := by rw [up_same, if_pos rfl]; exact hp
      have hFa : F4 σ (up σ 82 13 (σ 82 12)) := F4.up (by omega)
      have hMa := hFa.mt hM
      generalize up σ 82 13 (σ 82 12) = τ at h12 h11 h13 hFa hMa ⊢
      refine q_aload_n (pc := 8) dX8_nextToken_8 rfl ?_
      refine q_aload_n (pc := 9) dX8_nextToken_9 rfl ?_
      refine q_gI (pc := 10) 12 dX8_nextToken_10 fX8_90 rfl rfl rfl ?_
      refine q_aload_n (pc := 13) dX8_nextToken_13 rfl ?_
      refine q_gI (pc := 14) 11 dX8_nextToken_14 fX8_77 rfl rfl rfl ?_
      refine q_icmpge (pc := 17) (tgt := 32) dX8_nextToken_17 (by decide) (by omega) (by omega) (fun h => absurd h (by omega)) (fun h17 => ?_)
      refine q_aload_n (pc := 20) dX8_nextToken_20 rfl ?_
      refine q_getR (pc := 21) dX8_nextToken_21 fX8_31 rfl rfl ?_
      refine q_aload_n (pc := 24) dX8_nextToken_24 rfl ?_
      refine q_gI (pc := 25) 12 dX8_nextToken_25 fX8_90 rfl rfl rfl ?_
      refine q_iald (pc := 28) dX8_nextToken_28 rfl (by omega) ?_
      refine q_goto (pc := 29) (tgt := 34) dX8_nextToken_29 (by decide) ?_
      have tb : τ 90 (τ 82 12) = tp p := by rw [h12]; exact hMa.2 p (by omega) c
      rw [tb]
      refine q_pI (pc := 34) 15 dX8_nextToken_34 wX8_94 rfl rfl rfl ?_
      have k12 : up τ 82 15 (tp p) 82 12 = p := by rw [up_same, if_neg (by omega)]; exact h12
      have k11 : up τ 82 15 (tp p) 82 11 = tl := by rw [up_same, if_neg (by omega)]; exact h11
      have k13 : up τ 82 15 (tp p) 82 13 = p := by rw [up_same, if_neg (by omega)]; exact h13
      have k15 : up τ 82 15 (tp p) 82 15 = tp p := by rw [up_same, if_pos rfl]
      have hFb : F4 σ (up τ 82 15 (tp p)) := hFa.tt (F4.up (by omega))
      generalize up τ 82 15 (tp p) = τ1 at k12 k11 k13 k15 hFb ⊢
      refine q_aload_n (pc := 37) dX8_nextToken_37 rfl ?_
      refine q_aload_n (pc := 38) dX8_nextToken_38 rfl ?_
      refine q_gI (pc := 39) 12 dX8_nextToken_39 fX8_90 rfl rfl rfl ?_
      refine q_aload_n (pc := 42) dX8_nextToken_42 rfl ?_
      refine q_gI (pc := 43) 11 dX8_nextToken_43 fX8_77 rfl rfl rfl ?_
      refine q_icmpne (pc := 46) (tgt := 53) dX8_nextToken_46 (by decide) (by omega) (by omega) (fun h46 => ?_) (fun h => absurd h (by omega))
      refine q_aload_n (pc := 53) dX8_nextToken_53 rfl ?_
      refine q_gI (pc := 54) 15 dX8_nextToken_54 fX8_94 rfl rfl rfl ?_
      refine q_i2l (pc := 57) dX8_nextToken_57 (by omega) ?_
      refine q_ldc2 (pc := 58) (n := 97) kX8_97 dX8_nextToken_58 ?_
      refine q_ldc2 (pc := 61) (n := 122) kX8_99 dX8_nextToken_61 ?_
      refine q_S3i (pc := 64) dX8_nextToken_64 vX8_60 (Nat.le_of_ble_eq_true rfl) (Nat.le_of_ble_eq_true rfl) (t_X8_in (by omega) (by omega) (by omega)) (fun r1 σ1 hc1 => ?_)
      obtain ⟨rfl, rfl⟩ := hc1
      refine q_ifeqb (pc := 67) (tgt := 74) dX8_nextToken_67 (by decide) (fun h67 => ?_) (fun h => absurd h (by first | omega | simp_all))
      refine q_aload_n (pc := 74) dX8_nextToken_74 rfl ?_
      refine q_gI (pc := 75) 15 dX8_nextToken_75 fX8_94 rfl rfl rfl ?_
      refine q_i2l (pc := 78) dX8_nextToken_78 (by omega) ?_
      refine q_ldc2 (pc := 79) (n := 48) kX8_101 dX8_nextToken_79 ?_
      refine q_ldc2 (pc := 82) (n := 57) kX8_103 dX8_nextToken_82 ?_
      refine q_S3i (pc := 85) dX8_nextToken_85 vX8_60 (Nat.le_of_ble_eq_true rfl) (Nat.le_of_ble_eq_true rfl) (t_X8_in (by omega) (by omega) (by omega)) (fun r2 σ2 hc2 => ?_)
      obtain ⟨rfl, rfl⟩ := hc2
      refine q_ifeqb (pc := 88) (tgt := 95) dX8_nextToken_88 (by decide) (fun h => absurd h (by first | omega | simp_all)) (fun h88 => ?_)
      refine q_iconst (pc := 91) dX8_nextToken_91 ?_
      refine q_goto (pc := 92) (tgt := 118) dX8_nextToken_92 (by decide) ?_
      refine q_pI (pc := 118) 14 dX8_nextToken_118 wX8_105 rfl rfl rfl ?_
      have m12 : up τ1 82 14 3 82 12 = p := by rw [up_same, if_neg (by omega)]; exact k12
      have m11 : up τ1 82 14 3 82 11 = tl := by rw [up_same, if_neg (by omega)]; exact k11
      have m13 : up τ1 82 14 3 82 13 = p := by rw [up_same, if_neg (by omega)]; exact k13
      have m15 : up τ1 82 14 3 82 15 = tp p := by rw [up_same, if_neg (by omega)]; exact k15
      have m14 : up τ1 82 14 3 82 14 = 3 := by rw [up_same, if_pos rfl]
      have hFc : F4 σ (up τ1 82 14 3) := hFb.tt (F4.up (by omega))
      generalize up τ1 82 14 3 = τ2 at m12 m11 m13 m15 m14 hFc ⊢
      refine q_aload_n (pc := 121) dX8_nextToken_121 rfl ?_
      refine q_dup (pc := 122) dX8_nextToken_122 rfl ?_
      refine q_gI (pc := 123) 12 dX8_nextToken_123 fX8_90 rfl rfl rfl ?_
      refine q_aload_n (pc := 126) dX8_nextToken_126 rfl ?_
      refine q_gI (pc := 127) 12 dX8_nextToken_127 fX8_90 rfl rfl rfl ?_
      refine q_aload_n (pc := 130) dX8_nextToken_130 rfl ?_
      refine q_gI (pc := 131) 11 dX8_nextToken_131 fX8_77 rfl rfl rfl ?_
      refine q_icmpge (pc := 134) (tgt := 141) dX8_nextToken_134 (by decide) (by omega) (by omega) (fun h => absurd h (by omega)) (fun h134 => ?_)
      refine q_iconst (pc := 137) dX8_nextToken_137 ?_
      refine q_goto (pc := 138) (tgt := 142) dX8_nextToken_138 (by decide) ?_
      refine q_iadd (pc := 142) dX8_nextToken_142 ?_
      refine q_pI (pc := 143) 12 dX8_nextToken_143 wX8_90 rfl rfl rfl ?_
      have n12 : up τ2 82 12 (τ2 82 12 + 1) 82 12 = p + 1 := by rw [up_same, if_pos rfl, m12]
      have n11 : up τ2 82 12 (τ2 82 12 + 1) 82 11 = tl := by rw [up_same, if_neg (by omega)]; exact m11
      have n13 : up τ2 82 12 (τ2 82 12 + 1) 82 13 = p := by rw [up_same, if_neg (by omega)]; exact m13
      have n15 : up τ2 82 12 (τ2 82 12 + 1) 82 15 = tp p := by rw [up_same, if_neg (by omega)]; exact m15
      have n14 : up τ2 82 12 (τ2 82 12 + 1) 82 14 = 3 := by rw [up_same, if_neg (by omega)]; exact m14
      have hFd : F4 σ (up τ2 82 12 (τ2 82 12 + 1)) := hFc.tt (F4.up (by omega))
      generalize up τ2 82 12 (τ2 82 12 + 1) = τ3 at n12 n11 n13 n15 n14 hFd ⊢
      refine q_aload_n (pc := 146) dX8_nextToken_146 rfl ?_
      refine q_gI (pc := 147) 14 dX8_nextToken_147 fX8_105 rfl rfl rfl ?_
      refine q_iconst (pc := 150) dX8_nextToken_150 ?_
      refine q_icmpne (pc := 151) (tgt := 277) dX8_nextToken_151 (by decide) (by omega) (by omega) (fun h => absurd h (by omega)) (fun h151 => ?_)
      refine q_aload_n (pc := 154) dX8_nextToken_154 rfl ?_
      refine q_dup (pc := 155) dX8_nextToken_155 rfl ?_
      refine q_gI (pc := 156) 15 dX8_nextToken_156 fX8_94 rfl rfl rfl ?_
      refine q_bipush (pc := 159) dX8_nextToken_159 (by decide +kernel) ?_
      refine q_isub (pc := 161) dX8_nextToken_161 ?_
      refine q_pI (pc := 162) 15 dX8_nextToken_162 wX8_94 rfl rfl rfl ?_
      have q13 : up τ3 82 15 (τ3 82 15 - 48) 82 13 = p := by rw [up_same, if_neg (by omega)]; exact n13
      have hFe : F4 σ (up τ3 82 15 (τ3 82 15 - 48)) := hFd.tt (F4.up (by omega))
      exact m_tok_l hK (by omega) y (tl - p - 1).toNat 1 _ (by push_cast; omega) (by omega) (fun j hj => by
        have ej : j = 0 := by omega
        subst ej
        rw [show p + ((0 : Nat) : Int) = p by omega]
        exact ⟨c, y⟩) hFe (hFe.mt hM) (by rw [up_same, if_neg (by omega), n12]; rfl) q13 (by rw [up_same, if_pos rfl, n15, show ((1 : Nat) : Int) = 1 from rfl, nv_1])
    · skip
      refine q_aload_n (pc := 0) dX8_nextToken_0 rfl ?_
      refine q_aload_n (pc := 1) dX8_nextToken_1 rfl ?_
      refine q_gI (pc := 2) 12 dX8_nextToken_2 fX8_90 rfl rfl rfl ?_
      refine q_pI (pc := 5) 13 dX8_nextToken_5 wX8_84 rfl rfl rfl ?_
      have h12 : up σ 82 13 (σ 82 12) 82 12 = p := by rw [up_same, if_neg (by omega)]; exact hp
      have h11 : up σ 82 13 (σ 82 12) 82 11 = tl := by rw [up_same, if_neg (by omega)]; exact c11
      have h13 : up σ 82 13 (σ 82 12) 82 13 = p := by rw [up_same, if_pos rfl]; exact hp
      have hFa : F4 σ (up σ 82 13 (σ 82 12)) := F4.up (by omega)
      have hMa := hFa.mt hM
      generalize up σ 82 13 (σ 82 12) = τ at h12 h11 h13 hFa hMa ⊢
      refine q_aload_n (pc := 8) dX8_nextToken_8 rfl ?_
      refine q_aload_n (pc := 9) dX8_nextToken_9 rfl ?_
      refine q_gI (pc := 10) 12 dX8_nextToken_10 fX8_90 rfl rfl rfl ?_
      refine q_aload_n (pc := 13) dX8_nextToken_13 rfl ?_
      refine q_gI (pc := 14) 11 dX8_nextToken_14 fX8_77 rfl rfl rfl ?_
      refine q_icmpge (pc := 17) (tgt := 32) dX8_nextToken_17 (by decide) (by omega) (by omega) (fun h => absurd h (by omega)) (fun h17 => ?_)
      refine q_aload_n (pc := 20) dX8_nextToken_20 rfl ?_
      refine q_getR (pc := 21) dX8_nextToken_21 fX8_31 rfl rfl ?_
      refine q_aload_n (pc := 24) dX8_nextToken_24 rfl ?_
      refine q_gI (pc := 25) 12 dX8_nextToken_25 fX8_90 rfl rfl rfl ?_
      refine q_iald (pc := 28) dX8_nextToken_28 rfl (by omega) ?_
      refine q_goto (pc := 29) (tgt := 34) dX8_nextToken_29 (by decide) ?_
      have tb : τ 90 (τ 82 12) = tp p := by rw [h12]; exact hMa.2 p (by omega) c
      rw [tb]
      refine q_pI (pc := 34) 15 dX8_nextToken_34 wX8_94 rfl rfl rfl ?_
      have k12 : up τ 82 15 (tp p) 82 12 = p := by rw [up_same, if_neg (by omega)]; exact h12
      have k11 : up τ 82 15 (tp p) 82 11 = tl := by rw [up_same, if_neg (by omega)]; exact h11
      have k13 : up τ 82 15 (tp p) 82 13 = p := by rw [up_same, if_neg (by omega)]; exact h13
      have k15 : up τ 82 15 (tp p) 82 15 = tp p := by rw [up_same, if_pos rfl]
      have hFb : F4 σ (up τ 82 15 (tp p)) := hFa.tt (F4.up (by omega))
      generalize up τ 82 15 (tp p) = τ1 at k12 k11 k13 k15 hFb ⊢
      refine q_aload_n (pc := 37) dX8_nextToken_37 rfl ?_
      refine q_aload_n (pc := 38) dX8_nextToken_38 rfl ?_
      refine q_gI (pc := 39) 12 dX8_nextToken_39 fX8_90 rfl rfl rfl ?_
      refine q_aload_n (pc := 42) dX8_nextToken_42 rfl ?_
      refine q_gI (pc := 43) 11 dX8_nextToken_43 fX8_77 rfl rfl rfl ?_
      refine q_icmpne (pc := 46) (tgt := 53) dX8_nextToken_46 (by decide) (by omega) (by omega) (fun h46 => ?_) (fun h => absurd h (by omega))
      refine q_aload_n (pc := 53) dX8_nextToken_53 rfl ?_
      refine q_gI (pc := 54) 15 dX8_nextToken_54 fX8_94 rfl rfl rfl ?_
      refine q_i2l (pc := 57) dX8_nextToken_57 (by omega) ?_
      refine q_ldc2 (pc := 58) (n := 97) kX8_97 dX8_nextToken_58 ?_
      refine q_ldc2 (pc := 61) (n := 122) kX8_99 dX8_nextToken_61 ?_
      refine q_S3i (pc := 64) dX8_nextToken_64 vX8_60 (Nat.le_of_ble_eq_true rfl) (Nat.le_of_ble_eq_true rfl) (t_X8_in (by omega) (by omega) (by omega)) (fun r1 σ1 hc1 => ?_)
      obtain ⟨rfl, rfl⟩ := hc1
      refine q_ifeqb (pc := 67) (tgt := 74) dX8_nextToken_67 (by decide) (fun h67 => ?_) (fun h => absurd h (by first | omega | simp_all))
      refine q_aload_n (pc := 74) dX8_nextToken_74 rfl ?_
      refine q_gI (pc := 75) 15 dX8_nextToken_75 fX8_94 rfl rfl rfl ?_
      refine q_i2l (pc := 78) dX8_nextToken_78 (by omega) ?_
      refine q_ldc2 (pc := 79) (n := 48) kX8_101 dX8_nextToken_79 ?_
      refine q_ldc2 (pc := 82) (n := 57) kX8_103 dX8_nextToken_82 ?_
      refine q_S3i (pc := 85) dX8_nextToken_85 vX8_60 (Nat.le_of_ble_eq_true rfl) (Nat.le_of_ble_eq_true rfl) (t_X8_in (by omega) (by omega) (by omega)) (fun r2 σ2 hc2 => ?_)
      obtain ⟨rfl, rfl⟩ := hc2
      refine q_ifeqb (pc := 88) (tgt := 95) dX8_nextToken_88 (by decide) (fun h88 => ?_) (fun h => absurd h (by first | omega | simp_all))
      refine q_aload_n (pc := 95) dX8_nextToken_95 rfl ?_
      refine q_gI (pc := 96) 15 dX8_nextToken_96 fX8_94 rfl rfl rfl ?_
      refine q_bipush (pc := 99) dX8_nextToken_99 (by decide +kernel) ?_
      refine q_icmpeq (pc := 101) (tgt := 113) dX8_nextToken_101 (by decide) (by omega) (by omega) (fun h101 => ?_) (fun h => absurd h (by omega))
      refine q_iconst (pc := 113) dX8_nextToken_113 ?_
      refine q_goto (pc := 114) (tgt := 118) dX8_nextToken_114 (by decide) ?_
      refine q_pI (pc := 118) 14 dX8_nextToken_118 wX8_105 rfl rfl rfl ?_
      have m12 : up τ1 82 14 4 82 12 = p := by rw [up_same, if_neg (by omega)]; exact k12
      have m11 : up τ1 82 14 4 82 11 = tl := by rw [up_same, if_neg (by omega)]; exact k11
      have m13 : up τ1 82 14 4 82 13 = p := by rw [up_same, if_neg (by omega)]; exact k13
      have m15 : up τ1 82 14 4 82 15 = tp p := by rw [up_same, if_neg (by omega)]; exact k15
      have m14 : up τ1 82 14 4 82 14 = 4 := by rw [up_same, if_pos rfl]
      have hFc : F4 σ (up τ1 82 14 4) := hFb.tt (F4.up (by omega))
      generalize up τ1 82 14 4 = τ2 at m12 m11 m13 m15 m14 hFc ⊢
      refine q_aload_n (pc := 121) dX8_nextToken_121 rfl ?_
      refine q_dup (pc := 122) dX8_nextToken_122 rfl ?_
      refine q_gI (pc := 123) 12 dX8_nextToken_123 fX8_90 rfl rfl rfl ?_
      refine q_aload_n (pc := 126) dX8_nextToken_126 rfl ?_
      refine q_gI (pc := 127) 12 dX8_nextToken_127 fX8_90 rfl rfl rfl ?_
      refine q_aload_n (pc := 130) dX8_nextToken_130 rfl ?_
      refine q_gI (pc := 131) 11 dX8_nextToken_131 fX8_77 rfl rfl rfl ?_
      refine q_icmpge (pc := 134) (tgt := 141) dX8_nextToken_134 (by decide) (by omega) (by omega) (fun h => absurd h (by omega)) (fun h134 => ?_)
      refine q_iconst (pc := 137) dX8_nextToken_137 ?_
      refine q_goto (pc := 138) (tgt := 142) dX8_nextToken_138 (by decide) ?_
      refine q_iadd (pc := 142) dX8_nextToken_142 ?_
      refine q_pI (pc := 143) 12 dX8_nextToken_143 wX8_90 rfl rfl rfl ?_
      have n12 : up τ2 82 12 (τ2 82 12 + 1) 82 12 = p + 1 := by rw [up_same, if_pos rfl, m12]
      have n11 : up τ2 82 12 (τ2 82 12 + 1) 82 11 = tl := by rw [up_same, if_neg (by omega)]; exact m11
      have n13 : up τ2 82 12 (τ2 82 12 + 1) 82 13 = p := by rw [up_same, if_neg (by omega)]; exact m13
      have n15 : up τ2 82 12 (τ2 82 12 + 1) 82 15 = tp p := by rw [up_same, if_neg (by omega)]; exact m15
      have n14 : up τ2 82 12 (τ2 82 12 + 1) 82 14 = 4 := by rw [up_same, if_neg (by omega)]; exact m14
      have hFd : F4 σ (up τ2 82 12 (τ2 82 12 + 1)) := hFc.tt (F4.up (by omega))
      generalize up τ2 82 12 (τ2 82 12 + 1) = τ3 at n12 n11 n13 n15 n14 hFd ⊢
      refine q_aload_n (pc := 146) dX8_nextToken_146 rfl ?_
      refine q_gI (pc := 147) 14 dX8_nextToken_147 fX8_105 rfl rfl rfl ?_
      refine q_iconst (pc := 150) dX8_nextToken_150 ?_
      refine q_icmpne (pc := 151) (tgt := 277) dX8_nextToken_151 (by decide) (by omega) (by omega) (fun h151 => ?_) (fun h => absurd h (by omega))
      refine q_rv (pc := 277) dX8_nextToken_277 rfl ?_
      exact ⟨⟨n13, fun z => by omega, fun _ z => by first | exact ⟨n14, n15, n12⟩ | (exfalso; omega), fun _ z => by exfalso; omega, fun _ z => by first | exact ⟨n14, n15, n12⟩ | (exfalso; omega), fun _ z1 z2 z3 => by first | exact n14 | (exfalso; omega), by rw [n15]; omega⟩, hFd⟩
    · skip
      refine q_aload_n (pc := 0) dX8_nextToken_0 rfl ?_
      refine q_aload_n (pc := 1) dX8_nextToken_1 rfl ?_
      refine q_gI (pc := 2) 12 dX8_nextToken_2 fX8_90 rfl rfl rfl ?_
      refine q_pI (pc := 5) 13 dX8_nextToken_5 wX8_84 rfl rfl rfl ?_
      have h12 : up σ 82 13 (σ 82 12) 82 12 = p := by rw [up_same, if_neg (by omega)]; exact hp
      have h11 : up σ 82 13 (σ 82 12) 82 11 = tl := by rw [up_same, if_neg (by omega)]; exact c11
      have h13 : up σ 82 13 (σ 82 12) 82 13 = p := by rw [up_same, if_pos rfl]; exact hp
      have hFa : F4 σ (up σ 82 13 (σ 82 12)) := F4.up (by omega)
      have hMa := hFa.mt hM
      generalize up σ 82 13 (σ 82 12) = τ at h12 h11 h13 hFa hMa ⊢
      refine q_aload_n (pc := 8) dX8_nextToken_8 rfl ?_
      refine q_aload_n (pc := 9) dX8_nextToken_9 rfl ?_
      refine q_gI (pc := 10) 12 dX8_nextToken_10 fX8_90 rfl rfl rfl ?_
      refine q_aload_n (pc := 13) dX8_nextToken_13 rfl ?_
      refine q_gI (pc := 14) 11 dX8_nextToken_14 fX8_77 rfl rfl rfl ?_
      refine q_icmpge (pc := 17) (tgt := 32) dX8_nextToken_17 (by decide) (by omega) (by omega) (fun h => absurd h (by omega)) (fun h17 => ?_)
      refine q_aload_n (pc := 20) dX8_nextToken_20 rfl ?_
      refine q_getR (pc := 21) dX8_nextToken_21 fX8_31 rfl rfl ?_
      refine q_aload_n (pc := 24) dX8_nextToken_24 rfl ?_
      refine q_gI (pc := 25) 12 dX8_nextToken_25 fX8_90 rfl rfl rfl ?_
      refine q_iald (pc := 28) dX8_nextToken_28 rfl (by omega) ?_
      refine q_goto (pc := 29) (tgt := 34) dX8_nextToken_29 (by decide) ?_
      have tb : τ 90 (τ 82 12) = tp p := by rw [h12]; exact hMa.2 p (by omega) c
      rw [tb]
      refine q_pI (pc := 34) 15 dX8_nextToken_34 wX8_94 rfl rfl rfl ?_
      have k12 : up τ 82 15 (tp p) 82 12 = p := by rw [up_same, if_neg (by omega)]; exact h12
      have k11 : up τ 82 15 (tp p) 82 11 = tl := by rw [up_same, if_neg (by omega)]; exact h11
      have k13 : up τ 82 15 (tp p) 82 13 = p := by rw [up_same, if_neg (by omega)]; exact h13
      have k15 : up τ 82 15 (tp p) 82 15 = tp p := by rw [up_same, if_pos rfl]
      have hFb : F4 σ (up τ 82 15 (tp p)) := hFa.tt (F4.up (by omega))
      generalize up τ 82 15 (tp p) = τ1 at k12 k11 k13 k15 hFb ⊢
      refine q_aload_n (pc := 37) dX8_nextToken_37 rfl ?_
      refine q_aload_n (pc := 38) dX8_nextToken_38 rfl ?_
      refine q_gI (pc := 39) 12 dX8_nextToken_39 fX8_90 rfl rfl rfl ?_
      refine q_aload_n (pc := 42) dX8_nextToken_42 rfl ?_
      refine q_gI (pc := 43) 11 dX8_nextToken_43 fX8_77 rfl rfl rfl ?_
      refine q_icmpne (pc := 46) (tgt := 53) dX8_nextToken_46 (by decide) (by omega) (by omega) (fun h46 => ?_) (fun h => absurd h (by omega))
      refine q_aload_n (pc := 53) dX8_nextToken_53 rfl ?_
      refine q_gI (pc := 54) 15 dX8_nextToken_54 fX8_94 rfl rfl rfl ?_
      refine q_i2l (pc := 57) dX8_nextToken_57 (by omega) ?_
      refine q_ldc2 (pc := 58) (n := 97) kX8_97 dX8_nextToken_58 ?_
      refine q_ldc2 (pc := 61) (n := 122) kX8_99 dX8_nextToken_61 ?_
      refine q_S3i (pc := 64) dX8_nextToken_64 vX8_60 (Nat.le_of_ble_eq_true rfl) (Nat.le_of_ble_eq_true rfl) (t_X8_in (by omega) (by omega) (by omega)) (fun r1 σ1 hc1 => ?_)
      obtain ⟨rfl, rfl⟩ := hc1
      refine q_ifeqb (pc := 67) (tgt := 74) dX8_nextToken_67 (by decide) (fun h67 => ?_) (fun h => absurd h (by first | omega | simp_all))
      refine q_aload_n (pc := 74) dX8_nextToken_74 rfl ?_
      refine q_gI (pc := 75) 15 dX8_nextToken_75 fX8_94 rfl rfl rfl ?_
      refine q_i2l (pc := 78) dX8_nextToken_78 (by omega) ?_
      refine q_ldc2 (pc := 79) (n := 48) kX8_101 dX8_nextToken_79 ?_
      refine q_ldc2 (pc := 82) (n := 57) kX8_103 dX8_nextToken_82 ?_
      refine q_S3i (pc := 85) dX8_nextToken_85 vX8_60 (Nat.le_of_ble_eq_true rfl) (Nat.le_of_ble_eq_true rfl) (t_X8_in (by omega) (by omega) (by omega)) (fun r2 σ2 hc2 => ?_)
      obtain ⟨rfl, rfl⟩ := hc2
      refine q_ifeqb (pc := 88) (tgt := 95) dX8_nextToken_88 (by decide) (fun h88 => ?_) (fun h => absurd h (by first | omega | simp_all))
      refine q_aload_n (pc := 95) dX8_nextToken_95 rfl ?_
      refine q_gI (pc := 96) 15 dX8_nextToken_96 fX8_94 rfl rfl rfl ?_
      refine q_bipush (pc := 99) dX8_nextToken_99 (by decide +kernel) ?_
      refine q_icmpeq (pc := 101) (tgt := 113) dX8_nextToken_101 (by decide) (by omega) (by omega) (fun h => absurd h (by omega)) (fun h101 => ?_)
      refine q_aload_n (pc := 104) dX8_nextToken_104 rfl ?_
      refine q_gI (pc := 105) 15 dX8_nextToken_105 fX8_94 rfl rfl rfl ?_
      refine q_bipush (pc := 108) dX8_nextToken_108 (by decide +kernel) ?_
      refine q_icmpne (pc := 110) (tgt := 117) dX8_nextToken_110 (by decide) (by omega) (by omega) (fun h => absurd h (by omega)) (fun h110 => ?_)
      refine q_iconst (pc := 113) dX8_nextToken_113 ?_
      refine q_goto (pc := 114) (tgt := 118) dX8_nextToken_114 (by decide) ?_
      refine q_pI (pc := 118) 14 dX8_nextToken_118 wX8_105 rfl rfl rfl ?_
      have m12 : up τ1 82 14 4 82 12 = p := by rw [up_same, if_neg (by omega)]; exact k12
      have m11 : up τ1 82 14 4 82 11 = tl := by rw [up_same, if_neg (by omega)]; exact k11
      have m13 : up τ1 82 14 4 82 13 = p := by rw [up_same, if_neg (by omega)]; exact k13
      have m15 : up τ1 82 14 4 82 15 = tp p := by rw [up_same, if_neg (by omega)]; exact k15
      have m14 : up τ1 82 14 4 82 14 = 4 := by rw [up_same, if_pos rfl]
      have hFc : F4 σ (up τ1 82 14 4) := hFb.tt (F4.up (by omega))
      generalize up τ1 82 14 4 = τ2 at m12 m11 m13 m15 m14 hFc ⊢
      refine q_aload_n (pc := 121) dX8_nextToken_121 rfl ?_
      refine q_dup (pc := 122) dX8_nextToken_122 rfl ?_
      refine q_gI (pc := 123) 12 dX8_nextToken_123 fX8_90 rfl rfl rfl ?_
      refine q_aload_n (pc := 126) dX8_nextToken_126 rfl ?_
      refine q_gI (pc := 127) 12 dX8_nextToken_127 fX8_90 rfl rfl rfl ?_
      refine q_aload_n (pc := 130) dX8_nextToken_130 rfl ?_
      refine q_gI (pc := 131) 11 dX8_nextToken_131 fX8_77 rfl rfl rfl ?_
      refine q_icmpge (pc := 134) (tgt := 141) dX8_nextToken_134 (by decide) (by omega) (by omega) (fun h => absurd h (by omega)) (fun h134 => ?_)
      refine q_iconst (pc := 137) dX8_nextToken_137 ?_
      refine q_goto (pc := 138) (tgt := 142) dX8_nextToken_138 (by decide) ?_
      refine q_iadd (pc := 142) dX8_nextToken_142 ?_
      refine q_pI (pc := 143) 12 dX8_nextToken_143 wX8_90 rfl rfl rfl ?_
      have n12 : up τ2 82 12 (τ2 82 12 + 1) 82 12 = p + 1 := by rw [up_same, if_pos rfl, m12]
      have n11 : up τ2 82 12 (τ2 82 12 + 1) 82 11 = tl := by rw [up_same, if_neg (by omega)]; exact m11
      have n13 : up τ2 82 12 (τ2 82 12 + 1) 82 13 = p := by rw [up_same, if_neg (by omega)]; exact m13
      have n15 : up τ2 82 12 (τ2 82 12 + 1) 82 15 = tp p := by rw [up_same, if_neg (by omega)]; exact m15
      have n14 : up τ2 82 12 (τ2 82 12 + 1) 82 14 = 4 := by rw [up_same, if_neg (by omega)]; exact m14
      have hFd : F4 σ (up τ2 82 12 (τ2 82 12 + 1)) := hFc.tt (F4.up (by omega))
      generalize up τ2 82 12 (τ2 82 12 + 1) = τ3 at n12 n11 n13 n15 n14 hFd ⊢
      refine q_aload_n (pc := 146) dX8_nextToken_146 rfl ?_
      refine q_gI (pc := 147) 14 dX8_nextToken_147 fX8_105 rfl rfl rfl ?_
      refine q_iconst (pc := 150) dX8_nextToken_150 ?_
      refine q_icmpne (pc := 151) (tgt := 277) dX8_nextToken_151 (by decide) (by omega) (by omega) (fun h151 => ?_) (fun h => absurd h (by omega))
      refine q_rv (pc := 277) dX8_nextToken_277 rfl ?_
      exact ⟨⟨n13, fun z => by omega, fun _ z => by first | exact ⟨n14, n15, n12⟩ | (exfalso; omega), fun _ z => by exfalso; omega, fun _ z => by first | exact ⟨n14, n15, n12⟩ | (exfalso; omega), fun _ z1 z2 z3 => by first | exact n14 | (exfalso; omega), by rw [n15]; omega⟩, hFd⟩
    · skip
      refine q_aload_n (pc := 0) dX8_nextToken_0 rfl ?_
      refine q_aload_n (pc := 1) dX8_nextToken_1 rfl ?_
      refine q_gI (pc := 2) 12 dX8_nextToken_2 fX8_90 rfl rfl rfl ?_
      refine q_pI (pc := 5) 13 dX8_nextToken_5 wX8_84 rfl rfl rfl ?_
      have h12 : up σ 82 13 (σ 82 12) 82 12 = p := by rw [up_same, if_neg (by omega)]; exact hp
      have h11 : up σ 82 13 (σ 82 12) 82 11 = tl := by rw [up_same, if_neg (by omega)]; exact c11
      have h13 : up σ 82 13 (σ 82 12) 82 13 = p := by rw [up_same, if_pos rfl]; exact hp
      have hFa : F4 σ (up σ 82 13 (σ 82 12)) := F4.up (by omega)
      have hMa := hFa.mt hM
      generalize up σ 82 13 (σ 82 12) = τ at h12 h11 h13 hFa hMa ⊢
      refine q_aload_n (pc := 8) dX8_nextToken_8 rfl ?_
      refine q_aload_n (pc := 9) dX8_nextToken_9 rfl ?_
      refine q_gI (pc := 10) 12 dX8_nextToken_10 fX8_90 rfl rfl rfl ?_
      refine q_aload_n (pc := 13) dX8_nextToken_13 rfl ?_
      refine q_gI (pc := 14) 11 dX8_nextToken_14 fX8_77 rfl rfl rfl ?_
      refine q_icmpge (pc := 17) (tgt := 32) dX8_nextToken_17 (by decide) (by omega) (by omega) (fun h => absurd h (by omega)) (fun h17 => ?_)
      refine q_aload_n (pc := 20) dX8_nextToken_20 rfl ?_
      refine q_getR (pc := 21) dX8_nextToken_21 fX8_31 rfl rfl ?_
      refine q_aload_n (pc := 24) dX8_nextToken_24 rfl ?_
      refine q_gI (pc := 25) 12 dX8_nextToken_25 fX8_90 rfl rfl rfl ?_
      refine q_iald (pc := 28) dX8_nextToken_28 rfl (by omega) ?_
      refine q_goto (pc := 29) (tgt := 34) dX8_nextToken_29 (by decide) ?_
      have tb : τ 90 (τ 82 12) = tp p := by rw [h12]; exact hMa.2 p (by omega) c
      rw [tb]
      refine q_pI (pc := 34) 15 dX8_nextToken_34 wX8_94 rfl rfl rfl ?_
      have k12 : up τ 82 15 (tp p) 82 12 = p := by rw [up_same, if_neg (by omega)]; exact h12
      have k11 : up τ 82 15 (tp p) 82 11 = tl := by rw [up_same, if_neg (by omega)]; exact h11
      have k13 : up τ 82 15 (tp p) 82 13 = p := by rw [up_same, if_neg (by omega)]; exact h13
      have k15 : up τ 82 15 (tp p) 82 15 = tp p := by rw [up_same, if_pos rfl]
      have hFb : F4 σ (up τ 82 15 (tp p)) := hFa.tt (F4.up (by omega))
      generalize up τ 82 15 (tp p) = τ1 at k12 k11 k13 k15 hFb ⊢
      refine q_aload_n (pc := 37) dX8_nextToken_37 rfl ?_
      refine q_aload_n (pc := 38) dX8_nextToken_38 rfl ?_
      refine q_gI (pc := 39) 12 dX8_nextToken_39 fX8_90 rfl rfl rfl ?_
      refine q_aload_n (pc := 42) dX8_nextToken_42 rfl ?_
      refine q_gI (pc := 43) 11 dX8_nextToken_43 fX8_77 rfl rfl rfl ?_
      refine q_icmpne (pc := 46) (tgt := 53) dX8_nextToken_46 (by decide) (by omega) (by omega) (fun h46 => ?_) (fun h => absurd h (by omega))
      refine q_aload_n (pc := 53) dX8_nextToken_53 rfl ?_
      refine q_gI (pc := 54) 15 dX8_nextToken_54 fX8_94 rfl rfl rfl ?_
      refine q_i2l (pc := 57) dX8_nextToken_57 (by omega) ?_
      refine q_ldc2 (pc := 58) (n := 97) kX8_97 dX8_nextToken_58 ?_
      refine q_ldc2 (pc := 61) (n := 122) kX8_99 dX8_nextToken_61 ?_
      refine q_S3i (pc := 64) dX8_nextToken_64 vX8_60 (Nat.le_of_ble_eq_true rfl) (Nat.le_of_ble_eq_true rfl) (t_X8_in (by omega) (by omega) (by omega)) (fun r1 σ1 hc1 => ?_)
      obtain ⟨rfl, rfl⟩ := hc1
      refine q_ifeqb (pc := 67) (tgt := 74) dX8_nextToken_67 (by decide) (fun h67 => ?_) (fun h => absurd h (by first | omega | simp_all))
      refine q_aload_n (pc := 74) dX8_nextToken_74 rfl ?_
      refine q_gI (pc := 75) 15 dX8_nextToken_75 fX8_94 rfl rfl rfl ?_
      refine q_i2l (pc := 78) dX8_nextToken_78 (by omega) ?_
      refine q_ldc2 (pc := 79) (n := 48) kX8_101 dX8_nextToken_79 ?_
      refine q_ldc2 (pc := 82) (n := 57) kX8_103 dX8_nextToken_82 ?_
      refine q_S3i (pc := 85) dX8_nextToken_85 vX8_60 (Nat.le_of_ble_eq_true rfl) (Nat.le_of_ble_eq_true rfl) (t_X8_in (by omega) (by omega) (by omega)) (fun r2 σ2 hc2 => ?_)
      obtain ⟨rfl, rfl⟩ := hc2
      refine q_ifeqb (pc := 88) (tgt := 95) dX8_nextToken_88 (by decide) (fun h88 => ?_) (fun h => absurd h (by first | omega | simp_all))
      refine q_aload_n (pc := 95) dX8_nextToken_95 rfl ?_
      refine q_gI (pc := 96) 15 dX8_nextToken_96 fX8_94 rfl rfl rfl ?_
      refine q_bipush (pc := 99) dX8_nextToken_99 (by decide +kernel) ?_
      refine q_icmpeq (pc := 101) (tgt := 113) dX8_nextToken_101 (by decide) (by omega) (by omega) (fun h => absurd h (by omega)) (fun h101 => ?_)
      refine q_aload_n (pc := 104) dX8_nextToken_104 rfl ?_
      refine q_gI (pc := 105) 15 dX8_nextToken_105 fX8_94 rfl rfl rfl ?_
      refine q_bipush (pc := 108) dX8_nextToken_108 (by decide +kernel) ?_
      refine q_icmpne (pc := 110) (tgt := 117) dX8_nextToken_110 (by decide) (by omega) (by omega) (fun h110 => ?_) (fun h => absurd h (by omega))
      refine q_iconst (pc := 117) dX8_nextToken_117 ?_
      refine q_pI (pc := 118) 14 dX8_nextToken_118 wX8_105 rfl rfl rfl ?_
      have m12 : up τ1 82 14 0 82 12 = p := by rw [up_same, if_neg (by omega)]; exact k12
      have m11 : up τ1 82 14 0 82 11 = tl := by rw [up_same, if_neg (by omega)]; exact k11
      have m13 : up τ1 82 14 0 82 13 = p := by rw [up_same, if_neg (by omega)]; exact k13
      have m15 : up τ1 82 14 0 82 15 = tp p := by rw [up_same, if_neg (by omega)]; exact k15
      have m14 : up τ1 82 14 0 82 14 = 0 := by rw [up_same, if_pos rfl]
      have hFc : F4 σ (up τ1 82 14 0) := hFb.tt (F4.up (by omega))
      generalize up τ1 82 14 0 = τ2 at m12 m11 m13 m15 m14 hFc ⊢
      refine q_aload_n (pc := 121) dX8_nextToken_121 rfl ?_
      refine q_dup (pc := 122) dX8_nextToken_122 rfl ?_
      refine q_gI (pc := 123) 12 dX8_nextToken_123 fX8_90 rfl rfl rfl ?_
      refine q_aload_n (pc := 126) dX8_nextToken_126 rfl ?_
      refine q_gI (pc := 127) 12 dX8_nextToken_127 fX8_90 rfl rfl rfl ?_
      refine q_aload_n (pc := 130) dX8_nextToken_130 rfl ?_
      refine q_gI (pc := 131) 11 dX8_nextToken_131 fX8_77 rfl rfl rfl ?_
      refine q_icmpge (pc := 134) (tgt := 141) dX8_nextToken_134 (by decide) (by omega) (by omega) (fun h => absurd h (by omega)) (fun h134 => ?_)
      refine q_iconst (pc := 137) dX8_nextToken_137 ?_
      refine q_goto (pc := 138) (tgt := 142) dX8_nextToken_138 (by decide) ?_
      refine q_iadd (pc := 142) dX8_nextToken_142 ?_
      refine q_pI (pc := 143) 12 dX8_nextToken_143 wX8_90 rfl rfl rfl ?_
      have n12 : up τ2 82 12 (τ2 82 12 + 1) 82 12 = p + 1 := by rw [up_same, if_pos rfl, m12]
      have n11 : up τ2 82 12 (τ2 82 12 + 1) 82 11 = tl := by rw [up_same, if_neg (by omega)]; exact m11
      have n13 : up τ2 82 12 (τ2 82 12 + 1) 82 13 = p := by rw [up_same, if_neg (by omega)]; exact m13
      have n15 : up τ2 82 12 (τ2 82 12 + 1) 82 15 = tp p := by rw [up_same, if_neg (by omega)]; exact m15
      have n14 : up τ2 82 12 (τ2 82 12 + 1) 82 14 = 0 := by rw [up_same, if_neg (by omega)]; exact m14
      have hFd : F4 σ (up τ2 82 12 (τ2 82 12 + 1)) := hFc.tt (F4.up (by omega))
      generalize up τ2 82 12 (τ2 82 12 + 1) = τ3 at n12 n11 n13 n15 n14 hFd ⊢
      refine q_aload_n (pc := 146) dX8_nextToken_146 rfl ?_
      refine q_gI (pc := 147) 14 dX8_nextToken_147 fX8_105 rfl rfl rfl ?_
      refine q_iconst (pc := 150) dX8_nextToken_150 ?_
      refine q_icmpne (pc := 151) (tgt := 277) dX8_nextToken_151 (by decide) (by omega) (by omega) (fun h151 => ?_) (fun h => absurd h (by omega))
      refine q_rv (pc := 277) dX8_nextToken_277 rfl ?_
      exact ⟨⟨n13, fun z => by omega, fun _ z => by first | exact ⟨n14, n15, n12⟩ | (exfalso; omega), fun _ z => by exfalso; omega, fun _ z => by first | exact ⟨n14, n15, n12⟩ | (exfalso; omega), fun _ z1 z2 z3 => by first | exact n14 | (exfalso; omega), by rw [n15]; omega⟩, hFd⟩
  · skip
    refine q_aload_n (pc := 0) dX8_nextToken_0 rfl ?_
    refine q_aload_n (pc := 1) dX8_nextToken_1 rfl ?_
    refine q_gI (pc := 2) 12 dX8_nextToken_2 fX8_90 rfl rfl rfl ?_
    refine q_pI (pc := 5) 13 dX8_nextToken_5 wX8_84 rfl rfl rfl ?_
    have h12 : up σ 82 13 (σ 82 12) 82 12 = p := by rw [up_same, if_neg (by omega)]; exact hp
    have h11 : up σ 82 13 (σ 82 12) 82 11 = tl := by rw [up_same, if_neg (by omega)]; exact c11
    have h13 : up σ 82 13 (σ 82 12) 82 13 = p := by rw [up_same, if_pos rfl]; exact hp
    have hFa : F4 σ (up σ 82 13 (σ 82 12)) := F4.up (by omega)
    have hMa := hFa.mt hM
    generalize up σ 82 13 (σ 82 12) = τ at h12 h11 h13 hFa hMa ⊢
    refine q_aload_n (pc := 8) dX8_nextToken_8 rfl ?_
    refine q_aload_n (pc := 9) dX8_nextToken_9 rfl ?_
    refine q_gI (pc := 10) 12 dX8_nextToken_10 fX8_90 rfl rfl rfl ?_
    refine q_aload_n (pc := 13) dX8_nextToken_13 rfl ?_
    refine q_gI (pc := 14) 11 dX8_nextToken_14 fX8_77 rfl rfl rfl ?_
    refine q_icmpge (pc := 17) (tgt := 32) dX8_nextToken_17 (by decide) (by omega) (by omega) (fun h17 => ?_) (fun h => absurd h (by omega))
    refine q_ldc (pc := 32) (n := -1000000) kX8_93 dX8_nextToken_32 ?_
    refine q_pI (pc := 34) 15 dX8_nextToken_34 wX8_94 rfl rfl rfl ?_
    have k12 : up τ 82 15 (-1000000) 82 12 = p := by rw [up_same, if_neg (by omega)]; exact h12
    have k11 : up τ 82 15 (-1000000) 82 11 = tl := by rw [up_same, if_neg (by omega)]; exact h11
    have k13 : up τ 82 15 (-1000000) 82 13 = p := by rw [up_same, if_neg (by omega)]; exact h13
    have hFb : F4 σ (up τ 82 15 (-1000000)) := hFa.tt (F4.up (by omega))
    have k15 : up τ 82 15 (-1000000) 82 15 = -1000000 := by rw [up_same, if_pos rfl]
    generalize up τ 82 15 (-1000000) = τ1 at k12 k11 k13 k15 hFb ⊢
    refine q_aload_n (pc := 37) dX8_nextToken_37 rfl ?_
    refine q_aload_n (pc := 38) dX8_nextToken_38 rfl ?_
    refine q_gI (pc := 39) 12 dX8_nextToken_39 fX8_90 rfl rfl rfl ?_
    refine q_aload_n (pc := 42) dX8_nextToken_42 rfl ?_
    refine q_gI (pc := 43) 11 dX8_nextToken_43 fX8_77 rfl rfl rfl ?_
    refine q_icmpne (pc := 46) (tgt := 53) dX8_nextToken_46 (by decide) (by omega) (by omega) (fun h => absurd h (by omega)) (fun h46 => ?_)
    refine q_iconst (pc := 49) dX8_nextToken_49 ?_
    refine q_goto (pc := 50) (tgt := 118) dX8_nextToken_50 (by decide) ?_
    refine q_pI (pc := 118) 14 dX8_nextToken_118 wX8_105 rfl rfl rfl ?_
    have m12 : up τ1 82 14 1 82 12 = p := by rw [up_same, if_neg (by omega)]; exact k12
    have m11 : up τ1 82 14 1 82 11 = tl := by rw [up_same, if_neg (by omega)]; exact k11
    have m13 : up τ1 82 14 1 82 13 = p := by rw [up_same, if_neg (by omega)]; exact k13
    have m14 : up τ1 82 14 1 82 14 = 1 := by rw [up_same, if_pos rfl]
    have m15 : up τ1 82 14 1 82 15 = -1000000 := by rw [up_same, if_neg (by omega)]; exact k15
    have hFc : F4 σ (up τ1 82 14 1) := hFb.tt (F4.up (by omega))
    generalize up τ1 82 14 1 = τ2 at m12 m11 m13 m14 m15 hFc ⊢
    refine q_aload_n (pc := 121) dX8_nextToken_121 rfl ?_
    refine q_dup (pc := 122) dX8_nextToken_122 rfl ?_
    refine q_gI (pc := 123) 12 dX8_nextToken_123 fX8_90 rfl rfl rfl ?_
    refine q_aload_n (pc := 126) dX8_nextToken_126 rfl ?_
    refine q_gI (pc := 127) 12 dX8_nextToken_127 fX8_90 rfl rfl rfl ?_
    refine q_aload_n (pc := 130) dX8_nextToken_130 rfl ?_
    refine q_gI (pc := 131) 11 dX8_nextToken_131 fX8_77 rfl rfl rfl ?_
    refine q_icmpge (pc := 134) (tgt := 141) dX8_nextToken_134 (by decide) (by omega) (by omega) (fun h134 => ?_) (fun h => absurd h (by omega))
    refine q_iconst (pc := 141) dX8_nextToken_141 ?_
    refine q_iadd (pc := 142) dX8_nextToken_142 ?_
    refine q_pI (pc := 143) 12 dX8_nextToken_143 wX8_90 rfl rfl rfl ?_
    have n12 : up τ2 82 12 (τ2 82 12 + 0) 82 12 = p := by rw [up_same, if_pos rfl, m12]; omega
    have n13 : up τ2 82 12 (τ2 82 12 + 0) 82 13 = p := by rw [up_same, if_neg (by omega)]; exact m13
    have n14 : up τ2 82 12 (τ2 82 12 + 0) 82 14 = 1 := by rw [up_same, if_neg (by omega)]; exact m14
    have n15 : up τ2 82 12 (τ2 82 12 + 0) 82 15 = -1000000 := by rw [up_same, if_neg (by omega)]; exact m15
    have hFd : F4 σ (up τ2 82 12 (τ2 82 12 + 0)) := hFc.tt (F4.up (by omega))
    generalize up τ2 82 12 (τ2 82 12 + 0) = τ3 at n12 n13 n14 n15 hFd ⊢
    refine q_aload_n (pc := 146) dX8_nextToken_146 rfl ?_
    refine q_gI (pc := 147) 14 dX8_nextToken_147 fX8_105 rfl rfl rfl ?_
    refine q_iconst (pc := 150) dX8_nextToken_150 ?_
    refine q_icmpne (pc := 151) (tgt := 277) dX8_nextToken_151 (by decide) (by omega) (by omega) (fun h151 => ?_) (fun h => absurd h (by omega))
    refine q_rv (pc := 277) dX8_nextToken_277 rfl ?_
    exact ⟨⟨n13, fun _ => ⟨n14, n12⟩, fun z => absurd z c, fun z => absurd z c, fun z => absurd z c, fun z => absurd z c, by rw [n15]; omega⟩, hFd⟩
end T8
