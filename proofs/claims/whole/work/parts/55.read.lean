/-! ===== the reference: reading ===== -/
section T8
variable {G : qGl} {d : Nat} {σ : qM} {tp : Int → Int} {tl : Int} {s : Int × Int}
def RG (σ : qM) : Prop := (0 ≤ σ 82 14 ∧ σ 82 14 ≤ 4) ∧ -1000000 ≤ σ 82 15 ∧ σ 82 15 ≤ 1000
theorem tok_rg {p : Int} (h : tok σ tp tl p) : RG σ := by
  obtain ⟨t0, t1, t2, t3, t4, t5, t6⟩ := h
  refine ⟨?_, t6⟩
  by_cases c1 : p < tl
  · by_cases c2 : 97 ≤ tp p ∧ tp p ≤ 122
    · have := t2 c1 c2; omega
    · by_cases c3 : 48 ≤ tp p ∧ tp p ≤ 57
      · have q := t3 c1 c3
        have : σ 82 14 = 3 ∨ σ 82 14 = 0 := by rw [q.1]; split <;> omega
        omega
      · by_cases c4 : tp p = 44 ∨ tp p = 59
        · have := t4 c1 c4; omega
        · have := t5 c1 c2 c3 c4; omega
  · have := t1 (by omega); omega
def MS (σ : qM) (tp : Int → Int) (tl : Int) (s : Int × Int) : Prop := MT σ tp tl ∧ σ 82 16 = s.1 ∧ (s.1 ≠ 0 → σ 82 17 = s.2) ∧ (s.1 = 0 → tok σ tp tl s.2) ∧ RG σ
def F6 (σ σ1 : qM) : Prop := Fr σ σ1 [82] ∧ ∀ i, i < 12 ∨ 17 < i → σ1 82 i = σ 82 i
theorem F6.rf : F6 σ σ := ⟨Fr.rf, fun _ _ => rfl⟩
theorem F6.tt {σ1 σ2 : qM} (h1 : F6 σ σ1) (h2 : F6 σ1 σ2) : F6 σ σ2 := ⟨h1.1.tt h2.1, fun i hi => by rw [h2.2 i hi, h1.2 i hi]⟩
theorem F4.f6 {σ1 : qM} (h : F4 σ σ1) : F6 σ σ1 := ⟨h.1, fun i hi => h.2 i (by omega)⟩
theorem F6.up {i v : Int} (h : 12 ≤ i ∧ i ≤ 17) : F6 σ (up σ 82 i v) := ⟨Fr.up (by simp), fun j hj => by rw [up_same, if_neg (by omega)]⟩
theorem F6.mt {σ1 : qM} (h : F6 σ σ1) (hm : MT σ tp tl) : MT σ1 tp tl := by
  unfold MT
  rw [h.2 11 (by omega), h.1 90 (by simp)]
  exact hm
def bdS (v : Int) (s : Int × Int) : Int × Int := if s.1 = 0 then (v, s.2) else s
theorem m_bad {v : Int} (hS : MS σ tp tl s) (hi : sIn tl s) (hv : 1 ≤ v ∧ v ≤ 3) : qE G mX8_bad d 0 [(0, vr 82), (1, vi v)] [] σ (rv fun σ1 => MS σ1 tp tl (bdS v s) ∧ F6 σ σ1) := by
  obtain ⟨g1, g2, g3, g4, g5⟩ := id hS
  have hi1 := hi.1
  refine q_aload_n (pc := 0) dX8_bad_0 rfl ?_
  refine q_gI (pc := 1) 16 dX8_bad_1 fX8_81 rfl rfl rfl ?_
  refine q_ifne (pc := 4) (tgt := 20) dX8_bad_4 (by decide) (by omega) (fun h4 => ?_) (fun h4 => ?_)
  · refine q_rv (pc := 20) dX8_bad_20 rfl ?_
    first
    | (have e : bdS v s = s := if_neg (by omega)
       rw [e]
       exact ⟨hS, F6.rf⟩)
    | (have z : s.1 = 0 := by omega
       have e : bdS v s = (v, s.2) := if_pos z
       rw [e]
       have hF : F6 σ (up (up σ 82 16 v) 82 17 (up σ 82 16 v 82 13)) := (F6.up (by omega)).tt (F6.up (by omega))
       refine ⟨⟨hF.mt g1, by rw [up_same, if_neg (by omega), up_same, if_pos rfl], fun _ => ?_, fun q => ?_, ?_⟩, hF⟩
       · rw [up_same, if_pos rfl, up_same, if_neg (by omega)]; exact (g4 z).1
       · have q : v = 0 := q
         omega
       · unfold RG
         rw [up_same, if_neg (by omega), up_same, if_neg (by omega), up_same, if_neg (by omega), up_same, if_neg (by omega)]
         exact g5)
  · refine q_aload_n (pc := 7) dX8_bad_7 rfl ?_
    refine q_iload_n (pc := 8) dX8_bad_8 rfl ?_
    refine q_pI (pc := 9) 16 dX8_bad_9 wX8_81 rfl rfl rfl ?_
    refine q_aload_n (pc := 12) dX8_bad_12 rfl ?_
    refine q_aload_n (pc := 13) dX8_bad_13 rfl ?_
    refine q_gI (pc := 14) 13 dX8_bad_14 fX8_84 rfl rfl rfl ?_
    refine q_pI (pc := 17) 17 dX8_bad_17 wX8_87 rfl rfl rfl ?_
    refine q_rv (pc := 20) dX8_bad_20 rfl ?_
    first
    | (have e : bdS v s = s := if_neg (by omega)
       rw [e]
       exact ⟨hS, F6.rf⟩)
    | (have z : s.1 = 0 := by omega
       have e : bdS v s = (v, s.2) := if_pos z
       rw [e]
       have hF : F6 σ (up (up σ 82 16 v) 82 17 (up σ 82 16 v 82 13)) := (F6.up (by omega)).tt (F6.up (by omega))
       refine ⟨⟨hF.mt g1, by rw [up_same, if_neg (by omega), up_same, if_pos rfl], fun _ => ?_, fun q => ?_, ?_⟩, hF⟩
       · rw [up_same, if_pos rfl, up_same, if_neg (by omega)]; exact (g4 z).1
       · have q : v = 0 := q
         omega
       · unfold RG
         rw [up_same, if_neg (by omega), up_same, if_neg (by omega), up_same, if_neg (by omega), up_same, if_neg (by omega)]
         exact g5)
/-- where the token ends -/
theorem m_must0 (hS : MS σ tp tl s) (hi : sIn tl s) : qE G mX8_must (d + 3) 0 [(0, vr 82), (1, vi 0)] [] σ (rv fun σ1 => MS σ1 tp tl (bdS 1 s) ∧ F6 σ σ1) := by
  have hi1 := hi.1
  refine q_iload_n (pc := 0) dX8_must_0 rfl ?_
  refine q_ifne (pc := 1) (tgt := 9) dX8_must_1 (by decide) (by omega) (fun h => absurd h (by omega)) (fun h1 => ?_)
  refine q_aload_n (pc := 4) dX8_must_4 rfl ?_
  refine q_iconst (pc := 5) dX8_must_5 ?_
  refine q_V1v (pc := 6) dX8_must_6 vX8_108 rfl rfl (Nat.le_of_ble_eq_true rfl) (Nat.le_of_ble_eq_true rfl) (m_bad hS hi (by omega)) (fun σ1 hc1 => ?_)
  obtain ⟨hS1, hF1⟩ := hc1
  have e16 := hS1.2.1
  have hne : (bdS 1 s).1 ≠ 0 := by
    unfold bdS
    split
    · simp
    · assumption
  have hr : 0 ≤ (bdS 1 s).1 ∧ (bdS 1 s).1 ≤ 3 := by
    unfold bdS
    split
    · exact ⟨by show (0 : Int) ≤ 1; omega, by show (1 : Int) ≤ 3; omega⟩
    · exact hi1
  refine q_aload_n (pc := 9) dX8_must_9 rfl ?_
  refine q_gI (pc := 10) 16 dX8_must_10 fX8_81 rfl rfl rfl ?_
  refine q_ifne (pc := 13) (tgt := 20) dX8_must_13 (by decide) (by omega) (fun h13 => ?_) (fun h => absurd h (by omega))
  refine q_rv (pc := 20) dX8_must_20 rfl ?_
  exact ⟨hS1, hF1⟩
theorem m_must1 (hK : TK tp tl) (hS : MS σ tp tl s) (hi : sIn tl s) (hc : s.1 = 0 → 0 ≤ σ 82 12 ∧ σ 82 12 ≤ tl) : qE G mX8_must (d + 3) 0 [(0, vr 82), (1, vi 1)] [] σ (rv fun σ1 => MS σ1 tp tl (if s.1 = 0 then (0, σ 82 12) else s) ∧ F6 σ σ1) := by
  obtain ⟨g1, g2, g3, g4, g5⟩ := id hS
  have hi1 := hi.1
  refine q_iload_n (pc := 0) dX8_must_0 rfl ?_
  refine q_ifne (pc := 1) (tgt := 9) dX8_must_1 (by decide) (by omega) (fun h1 => ?_) (fun h => absurd h (by omega))
  refine q_aload_n (pc := 9) dX8_must_9 rfl ?_
  refine q_gI (pc := 10) 16 dX8_must_10 fX8_81 rfl rfl rfl ?_
  refine q_ifne (pc := 13) (tgt := 20) dX8_must_13 (by decide) (by omega) (fun h13 => ?_) (fun h13 => ?_)
  · refine q_rv (pc := 20) dX8_must_20 rfl ?_
    first
    | (have z : s.1 ≠ 0 := by omega
       rw [if_neg z]
       exact ⟨hS, F6.rf⟩)
    | (have z : s.1 = 0 := by omega
       rw [if_pos z]
       refine ⟨⟨hF1.f6.mt g1, ?_, fun q => absurd rfl q, fun _ => ht1, tok_rg ht1⟩, hF1.f6⟩
       rw [hF1.2 16 (by omega), g2, z])
  · refine q_aload_n (pc := 16) dX8_must_16 rfl ?_
    refine q_V0v (pc := 17) dX8_must_17 vX8_112 rfl rfl (Nat.le_of_ble_eq_true rfl) (Nat.le_of_ble_eq_true rfl) (m_next hK g1 rfl (hc (by omega))) (fun σ1 hc1 => ?_)
    obtain ⟨ht1, hF1⟩ := hc1
    refine q_rv (pc := 20) dX8_must_20 rfl ?_
    first
    | (have z : s.1 ≠ 0 := by omega
       rw [if_neg z]
       exact ⟨hS, F6.rf⟩)
    | (have z : s.1 = 0 := by omega
       rw [if_pos z]
       refine ⟨⟨hF1.f6.mt g1, ?_, fun q => absurd rfl q, fun _ => ht1, tok_rg ht1⟩, hF1.f6⟩
       rw [hF1.2 16 (by omega), g2, z])
/-- what the token at p is, by the byte there -/
theorem tok_let (hK : TK tp tl) {p : Int} (h : tok σ tp tl p) (hp : 0 ≤ p ∧ p ≤ tl) {c : Int} (hc : 97 ≤ c ∧ c ≤ 122) : (σ 82 14 = 2 ∧ σ 82 15 = c ↔ p < tl ∧ tp p = c) ∧ (0 ≤ σ 82 14 ∧ σ 82 14 ≤ 4) ∧ (p < tl ∧ tp p = c → σ 82 12 = p + 1) ∧ (σ 82 14 = 2 → p < tl ∧ 97 ≤ tp p ∧ tp p ≤ 122 ∧ σ 82 15 = tp p ∧ σ 82 12 = p + 1) := by
  obtain ⟨t0, t1, t2, t3, t4, t5, t6⟩ := h
  by_cases c1 : p < tl
  · by_cases c2 : 97 ≤ tp p ∧ tp p ≤ 122
    · have := t2 c1 c2; omega
    · by_cases c3 : 48 ≤ tp p ∧ tp p ≤ 57
      · have q := t3 c1 c3
        have : σ 82 14 = 3 ∨ σ 82 14 = 0 := by rw [q.1]; split <;> omega
        omega
      · by_cases c4 : tp p = 44 ∨ tp p = 59
        · have := t4 c1 c4; omega
        · have := t5 c1 c2 c3 c4; omega
  · have := t1 (by omega); omega
theorem tok_sig (hK : TK tp tl) {p : Int} (h : tok σ tp tl p) (hp : 0 ≤ p ∧ p ≤ tl) {c : Int} (hc : c = 44 ∨ c = 59) : (σ 82 14 = 4 ∧ σ 82 15 = c ↔ p < tl ∧ tp p = c) ∧ (0 ≤ σ 82 14 ∧ σ 82 14 ≤ 4) ∧ (p < tl ∧ tp p = c → σ 82 12 = p + 1) ∧ (σ 82 14 = 4 → -2147483648 ≤ σ 82 15 ∧ σ 82 15 ≤ 2147483647) := by
  obtain ⟨t0, t1, t2, t3, t4, t5, t6⟩ := h
  by_cases c1 : p < tl
  · by_cases c2 : 97 ≤ tp p ∧ tp p ≤ 122
    · have := t2 c1 c2; omega
    · by_cases c3 : 48 ≤ tp p ∧ tp p ≤ 57
      · have q := t3 c1 c3
        have : σ 82 14 = 3 ∨ σ 82 14 = 0 := by rw [q.1]; split <;> omega
        omega
      · by_cases c4 : tp p = 44 ∨ tp p = 59
        · have := t4 c1 c4; omega
        · have := t5 c1 c2 c3 c4; omega
  · have := t1 (by omega); omega
theorem m_isLetter {c : Int} (hK : TK tp tl) (hS : MS σ tp tl s) (hi : sIn tl s) (hc : 97 ≤ c ∧ c ≤ 122) : qE G mX8_isLetter d 0 [(0, vr 82), (1, vi c)] [] σ (ri fun r σ1 => bi (s.1 = 0 ∧ s.2 < tl ∧ tp s.2 = c) = r ∧ σ = σ1) := by
  obtain ⟨g1, g2, g3, g4, g5⟩ := id hS
  have hi1 := hi.1
  refine q_aload_n (pc := 0) dX8_isLetter_0 rfl ?_
  refine q_gI (pc := 1) 16 dX8_isLetter_1 fX8_81 rfl rfl rfl ?_
  refine q_ifne (pc := 4) (tgt := 27) dX8_isLetter_4 (by decide) (by omega) (fun h4 => ?_) (fun h4 => ?_)
  · refine q_iconst (pc := 27) dX8_isLetter_27 ?_
    refine q_rz (pc := 28) dX8_isLetter_28 rfl (by first | exact bi_01 _ | omega) ?_
    refine ⟨?_, rfl⟩
    first
    | exact bi_t ⟨by omega, (hl1.mp ⟨by omega, by omega⟩).1, (hl1.mp ⟨by omega, by omega⟩).2⟩
    | exact bi_f (fun z => by first | omega | (have := hl1.mpr z.2; omega))
  · have hl := tok_let hK (g4 (by omega)) hi.2 hc
    have hl1 := hl.1
    have hl2 := hl.2.1
    have hl4 := hl.2.2.2
    refine q_aload_n (pc := 7) dX8_isLetter_7 rfl ?_
    refine q_gI (pc := 8) 14 dX8_isLetter_8 fX8_105 rfl rfl rfl ?_
    refine q_iconst (pc := 11) dX8_isLetter_11 ?_
    refine q_icmpne (pc := 12) (tgt := 27) dX8_isLetter_12 (by decide) (by omega) (by omega) (fun h12 => ?_) (fun h12 => ?_)
    · refine q_iconst (pc := 27) dX8_isLetter_27 ?_
      refine q_rz (pc := 28) dX8_isLetter_28 rfl (by first | exact bi_01 _ | omega) ?_
      refine ⟨?_, rfl⟩
      first
      | exact bi_t ⟨by omega, (hl1.mp ⟨by omega, by omega⟩).1, (hl1.mp ⟨by omega, by omega⟩).2⟩
      | exact bi_f (fun z => by first | omega | (have := hl1.mpr z.2; omega))
    · have hl5 := hl4 (by omega)
      have hb := hK.2 s.2 (by have := hi.2; omega) hl5.1
      refine q_aload_n (pc := 15) dX8_isLetter_15 rfl ?_
      refine q_gI (pc := 16) 15 dX8_isLetter_16 fX8_94 rfl rfl rfl ?_
      refine q_iload_n (pc := 19) dX8_isLetter_19 rfl ?_
      refine q_icmpne (pc := 20) (tgt := 27) dX8_isLetter_20 (by decide) (by omega) (by omega) (fun h20 => ?_) (fun h20 => ?_)
      · refine q_iconst (pc := 27) dX8_isLetter_27 ?_
        refine q_rz (pc := 28) dX8_isLetter_28 rfl (by first | exact bi_01 _ | omega) ?_
        refine ⟨?_, rfl⟩
        first
        | exact bi_t ⟨by omega, (hl1.mp ⟨by omega, by omega⟩).1, (hl1.mp ⟨by omega, by omega⟩).2⟩
        | exact bi_f (fun z => by first | omega | (have := hl1.mpr z.2; omega))
      · refine q_iconst (pc := 23) dX8_isLetter_23 ?_
        refine q_goto (pc := 24) (tgt := 28) dX8_isLetter_24 (by decide) ?_
        refine q_rz (pc := 28) dX8_isLetter_28 rfl (by first | exact bi_01 _ | omega) ?_
        refine ⟨?_, rfl⟩
        first
        | exact bi_t ⟨by omega, (hl1.mp ⟨by omega, by omega⟩).1, (hl1.mp ⟨by omega, by omega⟩).2⟩
        | exact bi_f (fun z => by first | omega | (have := hl1.mpr z.2; omega))
theorem bdS_tk {c : Int} (h : ¬ (s.1 = 0 ∧ s.2 < tl ∧ tp s.2 = c)) : bdS 1 s = tkS tp tl c s := by
  unfold bdS tkS
  by_cases c1 : s.1 = 0
  · rw [if_pos c1, if_pos c1, if_neg (fun z => h ⟨c1, z⟩)]
  · rw [if_neg c1, if_neg c1]
theorem m_letter {c : Int} (hK : TK tp tl) (hS : MS σ tp tl s) (hi : sIn tl s) (hc : 97 ≤ c ∧ c ≤ 122) : qE G mX8_must (d + 3) 0 [(0, vr 82), (1, vi (bi (s.1 = 0 ∧ s.2 < tl ∧ tp s.2 = c)))] [] σ (rv fun σ1 => MS σ1 tp tl (tkS tp tl c s) ∧ F6 σ σ1) := by
  by_cases z : s.1 = 0 ∧ s.2 < tl ∧ tp s.2 = c
  · rw [bi_t z]
    have hl := tok_let hK (hS.2.2.2.1 z.1) hi.2 hc
    have h12 := hl.2.2.1 z.2
    have q := m_must1 (G := G) (d := d) hK hS hi (fun _ => by rw [h12]; have := hi.2; have := z.2.1; omega)
    rw [if_pos z.1, h12] at q
    have e : tkS tp tl c s = (0, s.2 + 1) := by unfold tkS; rw [if_pos z.1, if_pos z.2]
    rw [e]
    exact q
  · rw [bi_f z, ← bdS_tk z]
    exact m_must0 hS hi
theorem m_mustSign {c : Int} (hK : TK tp tl) (hS : MS σ tp tl s) (hi : sIn tl s) (hc : c = 44 ∨ c = 59) : qE G mX8_mustSign (d + 4) 0 [(0, vr 82), (1, vi c)] [] σ (rv fun σ1 => MS σ1 tp tl (tkS tp tl c s) ∧ F6 σ σ1) := by
  obtain ⟨g1, g2, g3, g4, g5⟩ := id hS
  have hi1 := hi.1
  by_cases z : s.1 = 0
  · have hl := tok_sig hK (g4 z) hi.2 hc
    have hl1 := hl.1
    have hl2 := hl.2.1
    have hl4 := hl.2.2.2
    by_cases y : s.2 < tl ∧ tp s.2 = c
    · have h12 := hl.2.2.1 y
      have yy := hl1.mpr y
      have e : tkS tp tl c s = (0, s.2 + 1) := by unfold tkS; rw [if_pos z, if_pos y]
      rw [e]
      refine q_aload_n (pc := 0) dX8_mustSign_0 rfl ?_
      refine q_aload_n (pc := 1) dX8_mustSign_1 rfl ?_
      refine q_gI (pc := 2) 14 dX8_mustSign_2 fX8_105 rfl rfl rfl ?_
      refine q_iconst (pc := 5) dX8_mustSign_5 ?_
      refine q_icmpne (pc := 6) (tgt := 21) dX8_mustSign_6 (by decide) (by omega) (by omega) (fun h => absurd h (by omega)) (fun h6 => ?_)
      refine q_aload_n (pc := 9) dX8_mustSign_9 rfl ?_
      refine q_gI (pc := 10) 15 dX8_mustSign_10 fX8_94 rfl rfl rfl ?_
      refine q_iload_n (pc := 13) dX8_mustSign_13 rfl ?_
      refine q_icmpne (pc := 14) (tgt := 21) dX8_mustSign_14 (by decide) (by omega) (by omega) (fun h => absurd h (by omega)) (fun h14 => ?_)
      refine q_iconst (pc := 17) dX8_mustSign_17 ?_
      refine q_goto (pc := 18) (tgt := 22) dX8_mustSign_18 (by decide) ?_
      refine q_V1v (pc := 22) dX8_mustSign_22 vX8_115 rfl rfl (Nat.le_of_ble_eq_true rfl) (Nat.le_of_ble_eq_true rfl) (m_must1 hK hS hi (fun _ => by rw [h12]; have := hi.2; have := y.1; omega)) (fun σ1 hc1 => ?_)
      obtain ⟨hS1, hF1⟩ := hc1
      refine q_rv (pc := 25) dX8_mustSign_25 rfl ?_
      rw [if_pos z, h12] at hS1
      exact ⟨hS1, hF1⟩
    · have yy : ¬ (σ 82 14 = 4 ∧ σ 82 15 = c) := fun q => y (hl1.mp q)
      rw [← bdS_tk (fun q => y q.2)]
      by_cases w : σ 82 14 = 4
      · have hl5 := hl4 w
        refine q_aload_n (pc := 0) dX8_mustSign_0 rfl ?_
        refine q_aload_n (pc := 1) dX8_mustSign_1 rfl ?_
        refine q_gI (pc := 2) 14 dX8_mustSign_2 fX8_105 rfl rfl rfl ?_
        refine q_iconst (pc := 5) dX8_mustSign_5 ?_
        refine q_icmpne (pc := 6) (tgt := 21) dX8_mustSign_6 (by decide) (by omega) (by omega) (fun h => absurd h (by omega)) (fun h6 => ?_)
        refine q_aload_n (pc := 9) dX8_mustSign_9 rfl ?_
        refine q_gI (pc := 10) 15 dX8_mustSign_10 fX8_94 rfl rfl rfl ?_
        refine q_iload_n (pc := 13) dX8_mustSign_13 rfl ?_
        refine q_icmpne (pc := 14) (tgt := 21) dX8_mustSign_14 (by decide) (by omega) (by omega) (fun h14 => ?_) (fun h => absurd h (by omega))
        refine q_iconst (pc := 21) dX8_mustSign_21 ?_
        refine q_V1v (pc := 22) dX8_mustSign_22 vX8_115 rfl rfl (Nat.le_of_ble_eq_true rfl) (Nat.le_of_ble_eq_true rfl) (m_must0 hS hi) (fun σ1 hc1 => ?_)
        obtain ⟨hS1, hF1⟩ := hc1
        refine q_rv (pc := 25) dX8_mustSign_25 rfl ?_
        first
        | exact ⟨hS1, hF1⟩
        | (exfalso; omega)
      · skip
        refine q_aload_n (pc := 0) dX8_mustSign_0 rfl ?_
        refine q_aload_n (pc := 1) dX8_mustSign_1 rfl ?_
        refine q_gI (pc := 2) 14 dX8_mustSign_2 fX8_105 rfl rfl rfl ?_
        refine q_iconst (pc := 5) dX8_mustSign_5 ?_
        refine q_icmpne (pc := 6) (tgt := 21) dX8_mustSign_6 (by decide) (by omega) (by omega) (fun h6 => ?_) (fun h => absurd h (by omega))
        refine q_iconst (pc := 21) dX8_mustSign_21 ?_
        refine q_V1v (pc := 22) dX8_mustSign_22 vX8_115 rfl rfl (Nat.le_of_ble_eq_true rfl) (Nat.le_of_ble_eq_true rfl) (m_must0 hS hi) (fun σ1 hc1 => ?_)
        obtain ⟨hS1, hF1⟩ := hc1
        refine q_rv (pc := 25) dX8_mustSign_25 rfl ?_
        first
        | exact ⟨hS1, hF1⟩
        | (exfalso; omega)
  · rw [tkS_f z]
    have hrr := g5
    unfold RG at hrr
    by_cases w : σ 82 14 = 4 ∧ σ 82 15 = c
    · skip
      refine q_aload_n (pc := 0) dX8_mustSign_0 rfl ?_
      refine q_aload_n (pc := 1) dX8_mustSign_1 rfl ?_
      refine q_gI (pc := 2) 14 dX8_mustSign_2 fX8_105 rfl rfl rfl ?_
      refine q_iconst (pc := 5) dX8_mustSign_5 ?_
      refine q_icmpne (pc := 6) (tgt := 21) dX8_mustSign_6 (by decide) (by omega) (by omega) (fun h => absurd h (by omega)) (fun h6 => ?_)
      refine q_aload_n (pc := 9) dX8_mustSign_9 rfl ?_
      refine q_gI (pc := 10) 15 dX8_mustSign_10 fX8_94 rfl rfl rfl ?_
      refine q_iload_n (pc := 13) dX8_mustSign_13 rfl ?_
      refine q_icmpne (pc := 14) (tgt := 21) dX8_mustSign_14 (by decide) (by omega) (by omega) (fun h => absurd h (by omega)) (fun h14 => ?_)
      refine q_iconst (pc := 17) dX8_mustSign_17 ?_
      refine q_goto (pc := 18) (tgt := 22) dX8_mustSign_18 (by decide) ?_
      refine q_V1v (pc := 22) dX8_mustSign_22 vX8_115 rfl rfl (Nat.le_of_ble_eq_true rfl) (Nat.le_of_ble_eq_true rfl) (m_must1 hK hS hi (fun q => absurd q z)) (fun σ1 hc1 => ?_)
      obtain ⟨hS1, hF1⟩ := hc1
      refine q_rv (pc := 25) dX8_mustSign_25 rfl ?_
      first
      | (rw [if_neg z] at hS1; exact ⟨hS1, hF1⟩)
      | (have e : bdS 1 s = s := if_neg z
         rw [e] at hS1; exact ⟨hS1, hF1⟩)
    · by_cases w2 : σ 82 14 = 4
      · skip
        refine q_aload_n (pc := 0) dX8_mustSign_0 rfl ?_
        refine q_aload_n (pc := 1) dX8_mustSign_1 rfl ?_
        refine q_gI (pc := 2) 14 dX8_mustSign_2 fX8_105 rfl rfl rfl ?_
        refine q_iconst (pc := 5) dX8_mustSign_5 ?_
        refine q_icmpne (pc := 6) (tgt := 21) dX8_mustSign_6 (by decide) (by omega) (by omega) (fun h => absurd h (by omega)) (fun h6 => ?_)
        refine q_aload_n (pc := 9) dX8_mustSign_9 rfl ?_
        refine q_gI (pc := 10) 15 dX8_mustSign_10 fX8_94 rfl rfl rfl ?_
        refine q_iload_n (pc := 13) dX8_mustSign_13 rfl ?_
        refine q_icmpne (pc := 14) (tgt := 21) dX8_mustSign_14 (by decide) (by omega) (by omega) (fun h14 => ?_) (fun h => absurd h (by omega))
        refine q_iconst (pc := 21) dX8_mustSign_21 ?_
        refine q_V1v (pc := 22) dX8_mustSign_22 vX8_115 rfl rfl (Nat.le_of_ble_eq_true rfl) (Nat.le_of_ble_eq_true rfl) (m_must0 hS hi) (fun σ1 hc1 => ?_)
        obtain ⟨hS1, hF1⟩ := hc1
        refine q_rv (pc := 25) dX8_mustSign_25 rfl ?_
        first
        | (rw [if_neg z] at hS1; exact ⟨hS1, hF1⟩)
        | (have e : bdS 1 s = s := if_neg z
           rw [e] at hS1; exact ⟨hS1, hF1⟩)
      · skip
        refine q_aload_n (pc := 0) dX8_mustSign_0 rfl ?_
        refine q_aload_n (pc := 1) dX8_mustSign_1 rfl ?_
        refine q_gI (pc := 2) 14 dX8_mustSign_2 fX8_105 rfl rfl rfl ?_
        refine q_iconst (pc := 5) dX8_mustSign_5 ?_
        refine q_icmpne (pc := 6) (tgt := 21) dX8_mustSign_6 (by decide) (by omega) (by omega) (fun h6 => ?_) (fun h => absurd h (by omega))
        refine q_iconst (pc := 21) dX8_mustSign_21 ?_
        refine q_V1v (pc := 22) dX8_mustSign_22 vX8_115 rfl rfl (Nat.le_of_ble_eq_true rfl) (Nat.le_of_ble_eq_true rfl) (m_must0 hS hi) (fun σ1 hc1 => ?_)
        obtain ⟨hS1, hF1⟩ := hc1
        refine q_rv (pc := 25) dX8_mustSign_25 rfl ?_
        first
        | (rw [if_neg z] at hS1; exact ⟨hS1, hF1⟩)
        | (have e : bdS 1 s = s := if_neg z
           rw [e] at hS1; exact ⟨hS1, hF1⟩)
end T8
