/-! ===== the reference: feet, deeds ===== -/
section T8
variable {G : qGl} {d : Nat} {σ : qM} {tp : Int → Int} {tl : Int} {s : Int × Int} {g : Int → Int}
def F7 (σ σ1 : qM) : Prop := Fr σ σ1 [82, 87] ∧ ∀ i, i < 12 ∨ 17 < i → σ1 82 i = σ 82 i
theorem F7.tt {σ1 σ2 : qM} (h1 : F7 σ σ1) (h2 : F7 σ1 σ2) : F7 σ σ2 := ⟨h1.1.tt h2.1, fun i hi => by rw [h2.2 i hi, h1.2 i hi]⟩
theorem F7.rf : F7 σ σ := ⟨Fr.rf, fun _ _ => rfl⟩
theorem F6.f7 {σ1 : qM} (h : F6 σ σ1) : F7 σ σ1 := ⟨h.1.wk (by simp), h.2⟩
theorem F7.up {i v : Int} : F7 σ (up σ 87 i v) := ⟨Fr.up (by simp), fun j _ => by rw [up_ne (by omega)]⟩
theorem MS.up {i v : Int} (h : MS σ tp tl s) : MS (up σ 87 i v) tp tl s := by
  unfold MS MT tok RG
  rw [up_ne (show (82 : Nat) ≠ 87 by omega), up_ne (show (90 : Nat) ≠ 87 by omega)]
  exact h
theorem sh87 : qSh 87 = (1, 34, []) := by decide
theorem F6.rw {σ1 : qM} (h : F6 σ σ1) (hg : RwR σ 87 g) : RwR σ1 87 g := hg.fr h.1 (by simp)
theorem m_readFoot {i : Int} (hK : TK tp tl) (hS : MS σ tp tl s) (hI : sIn tl s) (hi : 0 ≤ i ∧ i ≤ 2) (hg : RwR σ 87 g) : qE G mX8_readFoot (d + 5) 0 [(0, vr 82), (1, vi i)] [] σ (rv fun σ1 => MS σ1 tp tl (ftS tp tl s) ∧ F7 σ σ1 ∧ ((ftS tp tl s).1 = 0 → RwR σ1 87 (ftR tp tl i s g))) := by
  have i1 : sIn tl (tkS tp tl 119 s) := tkS_in hI
  have i2 : sIn tl (nmS tp tl 0 60 (tkS tp tl 119 s)) := nmS_in i1
  have i3 : sIn tl (tkS tp tl 44 (nmS tp tl 0 60 (tkS tp tl 119 s))) := tkS_in i2
  have i4 : sIn tl (nmS tp tl 0 9 (tkS tp tl 44 (nmS tp tl 0 60 (tkS tp tl 119 s)))) := nmS_in i3
  refine q_aload_n (pc := 0) dX8_readFoot_0 rfl ?_
  refine q_aload_n (pc := 1) dX8_readFoot_1 rfl ?_
  refine q_bipush (pc := 2) dX8_readFoot_2 (by decide +kernel) ?_
  refine q_V1i (pc := 4) dX8_readFoot_4 vX8_125 rfl rfl (Nat.le_of_ble_eq_true rfl) (Nat.le_of_ble_eq_true rfl) (m_isLetter hK hS hI (by omega)) (fun r1 σ1 hc1 => ?_)
  obtain ⟨rfl, rfl⟩ := hc1
  refine q_V1v (pc := 7) dX8_readFoot_7 vX8_115 rfl rfl (Nat.le_of_ble_eq_true rfl) (Nat.le_of_ble_eq_true rfl) (m_letter hK hS hI (by omega)) (fun σ2 hc2 => ?_)
  obtain ⟨hS2, hF2⟩ := hc2
  refine q_aload_n (pc := 10) dX8_readFoot_10 rfl ?_
  refine q_getR (pc := 11) dX8_readFoot_11 fX8_22 rfl rfl ?_
  refine q_bipush (pc := 14) dX8_readFoot_14 (by decide +kernel) ?_
  refine q_iload_n (pc := 16) dX8_readFoot_16 rfl ?_
  refine q_iadd (pc := 17) dX8_readFoot_17 ?_
  refine q_aload_n (pc := 18) dX8_readFoot_18 rfl ?_
  refine q_iconst (pc := 19) dX8_readFoot_19 ?_
  refine q_bipush (pc := 20) dX8_readFoot_20 (by decide +kernel) ?_
  refine q_V2i (pc := 22) dX8_readFoot_22 vX8_128 rfl rfl (Nat.le_of_ble_eq_true rfl) (Nat.le_of_ble_eq_true rfl) (m_number hK hS2 i1 (by omega) (by omega)) (fun r3 σ3 hc3 => ?_)
  obtain ⟨hr3, hS3, hF3⟩ := hc3
  refine q_iast (pc := 25) dX8_readFoot_25 rfl (by omega) ?_
  refine q_aload_n (pc := 26) dX8_readFoot_26 rfl ?_
  refine q_bipush (pc := 27) dX8_readFoot_27 (by decide +kernel) ?_
  refine q_V1v (pc := 29) dX8_readFoot_29 vX8_132 rfl rfl (Nat.le_of_ble_eq_true rfl) (Nat.le_of_ble_eq_true rfl) (m_mustSign hK hS3.up i2 (by omega)) (fun σ4 hc4 => ?_)
  obtain ⟨hS4, hF4⟩ := hc4
  refine q_aload_n (pc := 32) dX8_readFoot_32 rfl ?_
  refine q_getR (pc := 33) dX8_readFoot_33 fX8_22 rfl rfl ?_
  refine q_bipush (pc := 36) dX8_readFoot_36 (by decide +kernel) ?_
  refine q_iload_n (pc := 38) dX8_readFoot_38 rfl ?_
  refine q_iadd (pc := 39) dX8_readFoot_39 ?_
  refine q_aload_n (pc := 40) dX8_readFoot_40 rfl ?_
  refine q_iconst (pc := 41) dX8_readFoot_41 ?_
  refine q_bipush (pc := 42) dX8_readFoot_42 (by decide +kernel) ?_
  refine q_V2i (pc := 44) dX8_readFoot_44 vX8_128 rfl rfl (Nat.le_of_ble_eq_true rfl) (Nat.le_of_ble_eq_true rfl) (m_number hK hS4 i3 (by omega) (by omega)) (fun r5 σ5 hc5 => ?_)
  obtain ⟨hr5, hS5, hF5⟩ := hc5
  refine q_iast (pc := 47) dX8_readFoot_47 rfl (by omega) ?_
  refine q_aload_n (pc := 48) dX8_readFoot_48 rfl ?_
  refine q_bipush (pc := 49) dX8_readFoot_49 (by decide +kernel) ?_
  refine q_V1v (pc := 51) dX8_readFoot_51 vX8_132 rfl rfl (Nat.le_of_ble_eq_true rfl) (Nat.le_of_ble_eq_true rfl) (m_mustSign hK hS5.up i4 (by omega)) (fun σ6 hc6 => ?_)
  obtain ⟨hS6, hF6⟩ := hc6
  refine q_rv (pc := 54) dX8_readFoot_54 rfl ?_
  refine ⟨hS6, (((((hF2.f7.tt hF3.f7).tt F7.up).tt hF4.f7).tt hF5.f7).tt F7.up).tt hF6.f7, fun z => ?_⟩
  have z4 := (tkS_ok (show (tkS tp tl 59 (nmS tp tl 0 9 (tkS tp tl 44 (nmS tp tl 0 60 (tkS tp tl 119 s))))).1 = 0 from z)).1
  have z3 := (nmS_ok z4).1
  have z2 := (tkS_ok z3).1
  have e1 := hr3 z2
  have e2 := hr5 z4
  have q := F6.rw hF6 (RwR.up (i := 10 + i) (v := r5) (F6.rw hF5 (F6.rw hF4 (RwR.up (i := 7 + i) (v := r3) (F6.rw hF3 (F6.rw hF2 hg))))))
  rw [← e1, ← e2] at q
  exact q
theorem m_begin (hK : TK tp tl) (hM : MT σ tp tl) : qE G mX8_begin (d + 3) 0 [(0, vr 82)] [] σ (rv fun σ1 => MS σ1 tp tl (0, 0) ∧ F6 σ σ1) := by
  have hk := hK.1
  have hF0 : F6 σ (up (up σ 82 12 0) 82 16 0) := (F6.up (by omega)).tt (F6.up (by omega))
  have h12 : up (up σ 82 12 0) 82 16 0 82 12 = 0 := by rw [up_same, if_neg (by omega), up_same, if_pos rfl]
  have h16 : up (up σ 82 12 0) 82 16 0 82 16 = 0 := by rw [up_same, if_pos rfl]
  refine q_aload_n (pc := 0) dX8_begin_0 rfl ?_
  refine q_iconst (pc := 1) dX8_begin_1 ?_
  refine q_pI (pc := 2) 12 dX8_begin_2 wX8_90 rfl rfl rfl ?_
  refine q_aload_n (pc := 5) dX8_begin_5 rfl ?_
  refine q_iconst (pc := 6) dX8_begin_6 ?_
  refine q_pI (pc := 7) 16 dX8_begin_7 wX8_81 rfl rfl rfl ?_
  refine q_aload_n (pc := 10) dX8_begin_10 rfl ?_
  refine q_V0v (pc := 11) dX8_begin_11 vX8_112 rfl rfl (Nat.le_of_ble_eq_true rfl) (Nat.le_of_ble_eq_true rfl) (m_next (p := 0) hK (hF0.mt hM) h12 (by omega)) (fun σ1 hc1 => ?_)
  obtain ⟨ht1, hF1⟩ := hc1
  refine q_rv (pc := 14) dX8_begin_14 rfl ?_
  exact ⟨⟨hF1.f6.mt (hF0.mt hM), by rw [hF1.2 16 (by omega), h16], fun q => absurd rfl q, fun _ => ht1, tok_rg ht1⟩, hF0.tt hF1.f6⟩
end T8
