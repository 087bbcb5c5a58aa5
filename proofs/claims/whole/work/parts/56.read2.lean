/-! ===== the reference: numbers ===== -/
section T8
variable {G : qGl} {d : Nat} {σ : qM} {tp : Int → Int} {tl : Int} {s : Int × Int}
theorem dg_pos {p : Int} : (1 ≤ dg tp tl 120 p ↔ isd tp tl p) := by
  have h := (dg_in tp tl 119 (p + 1)).1
  show 1 ≤ (if isd tp tl p then dg tp tl 119 (p + 1) + 1 else 0) ↔ _
  by_cases c : isd tp tl p
  · rw [if_pos c]; exact ⟨fun _ => c, fun _ => by omega⟩
  · rw [if_neg c]; exact ⟨fun z => absurd z (by omega), fun z => absurd z c⟩
theorem tok_num {p : Int} (h : tok σ tp tl p) (hp : 0 ≤ p ∧ p ≤ tl) : (σ 82 14 = 3 ↔ 1 ≤ dg tp tl 120 p ∧ dg tp tl 120 p ≤ 2) ∧ (σ 82 14 = 3 → σ 82 15 = nv tp p (dg tp tl 120 p) ∧ σ 82 12 = p + dg tp tl 120 p ∧ p + dg tp tl 120 p ≤ tl) := by
  obtain ⟨t0, t1, t2, t3, t4, t5, t6⟩ := h
  have hq := dg_pos (tp := tp) (tl := tl) (p := p)
  have hin := (dg_in tp tl 120 p).2.2
  by_cases c1 : p < tl
  · by_cases c3 : 48 ≤ tp p ∧ tp p ≤ 57
    · have q := t3 c1 c3
      have h1 := hq.mpr ⟨c1, c3⟩
      have h2 := hin (by omega)
      by_cases c5 : dg tp tl 120 p ≤ 2
      · rw [if_pos c5] at q; exact ⟨⟨fun _ => ⟨h1, c5⟩, fun _ => q.1⟩, fun _ => ⟨q.2.1, q.2.2, h2⟩⟩
      · rw [if_neg c5] at q; exact ⟨⟨fun z => by omega, fun z => absurd z.2 c5⟩, fun z => by omega⟩
    · have hn : ¬ 1 ≤ dg tp tl 120 p := fun z => c3 (hq.mp z).2
      have h14 : σ 82 14 ≠ 3 := by
        by_cases c2 : 97 ≤ tp p ∧ tp p ≤ 122
        · have := t2 c1 c2; omega
        · by_cases c4 : tp p = 44 ∨ tp p = 59
          · have := t4 c1 c4; omega
          · have := t5 c1 c2 c3 c4; omega
      exact ⟨⟨fun z => absurd z h14, fun z => absurd z.1 hn⟩, fun z => absurd z h14⟩
  · have hn : ¬ 1 ≤ dg tp tl 120 p := fun z => c1 (hq.mp z).1
    have h14 : σ 82 14 ≠ 3 := by have := t1 (by omega); omega
    exact ⟨⟨fun z => absurd z h14, fun z => absurd z.1 hn⟩, fun z => absurd z h14⟩
theorem bdS_in {v : Int} (h : sIn tl s) (hv : 0 ≤ v ∧ v ≤ 3) : sIn tl (bdS v s) := by
  unfold bdS
  split
  · exact ⟨hv, h.2⟩
  · exact h
theorem m_number {lo hi : Int} (hK : TK tp tl) (hS : MS σ tp tl s) (hi' : sIn tl s) (hlo : 0 ≤ lo ∧ lo ≤ 100) (hhi : 0 ≤ hi ∧ hi ≤ 100) : qE G mX8_number (d + 4) 0 [(0, vr 82), (1, vi lo), (2, vi hi)] [] σ (ri fun r σ1 => ((nmS tp tl lo hi s).1 = 0 → nvS tp tl s = r) ∧ MS σ1 tp tl (nmS tp tl lo hi s) ∧ F6 σ σ1) := by
  obtain ⟨g1, g2, g3, g4, g5⟩ := id hS
  have hi1 := hi'.1
  have g5 : (0 ≤ σ 82 14 ∧ σ 82 14 ≤ 4) ∧ -1000000 ≤ σ 82 15 ∧ σ 82 15 ≤ 1000 := g5
  by_cases z : s.1 = 0
  · have ht := tok_num (g4 z) hi'.2
    by_cases c1 : σ 82 14 = 3
    · have hd := ht.1.mp c1
      obtain ⟨e15, e12, e3⟩ := ht.2 c1
      by_cases c2 : lo ≤ nv tp s.2 (dg tp tl 120 s.2) ∧ nv tp s.2 (dg tp tl 120 s.2) ≤ hi
      · have e : nmS tp tl lo hi s = (0, s.2 + dg tp tl 120 s.2) := by unfold nmS; rw [if_pos z, if_pos hd, if_pos c2]
        rw [e]
        refine q_aload_n (pc := 0) dX8_number_0 rfl ?_
        refine q_gI (pc := 1) 16 dX8_number_1 fX8_81 rfl rfl rfl ?_
        refine q_ifne (pc := 4) (tgt := 20) dX8_number_4 (by decide) (by omega) (fun h => absurd h (by omega)) (fun h4 => ?_)
        refine q_aload_n (pc := 7) dX8_number_7 rfl ?_
        refine q_gI (pc := 8) 14 dX8_number_8 fX8_105 rfl rfl rfl ?_
        refine q_iconst (pc := 11) dX8_number_11 ?_
        refine q_icmpeq (pc := 12) (tgt := 20) dX8_number_12 (by decide) (by omega) (by omega) (fun h12 => ?_) (fun h => absurd h (by omega))
        refine q_aload_n (pc := 20) dX8_number_20 rfl ?_
        refine q_gI (pc := 21) 16 dX8_number_21 fX8_81 rfl rfl rfl ?_
        refine q_ifne (pc := 24) (tgt := 47) dX8_number_24 (by decide) (by omega) (fun h => absurd h (by omega)) (fun h24 => ?_)
        refine q_aload_n (pc := 27) dX8_number_27 rfl ?_
        refine q_gI (pc := 28) 15 dX8_number_28 fX8_94 rfl rfl rfl ?_
        refine q_i2l (pc := 31) dX8_number_31 (by omega) ?_
        refine q_iload_n (pc := 32) dX8_number_32 rfl ?_
        refine q_i2l (pc := 33) dX8_number_33 (by omega) ?_
        refine q_iload_n (pc := 34) dX8_number_34 rfl ?_
        refine q_i2l (pc := 35) dX8_number_35 (by omega) ?_
        refine q_S3i (pc := 36) dX8_number_36 vX8_60 (Nat.le_of_ble_eq_true rfl) (Nat.le_of_ble_eq_true rfl) (t_X8_in (by omega) (by omega) (by omega)) (fun r1 σ1 hc1 => ?_)
        obtain ⟨rfl, rfl⟩ := hc1
        refine q_ifneb (pc := 39) (tgt := 47) dX8_number_39 (by decide) (fun h39 => ?_) (fun h => absurd h (by first | omega | simp_all))
        refine q_aload_n (pc := 47) dX8_number_47 rfl ?_
        refine q_gI (pc := 48) 16 dX8_number_48 fX8_81 rfl rfl rfl ?_
        refine q_ifne (pc := 51) (tgt := 61) dX8_number_51 (by decide) (by omega) (fun h => absurd h (by omega)) (fun h51 => ?_)
        refine q_aload_n (pc := 54) dX8_number_54 rfl ?_
        refine q_gI (pc := 55) 15 dX8_number_55 fX8_94 rfl rfl rfl ?_
        refine q_goto (pc := 58) (tgt := 62) dX8_number_58 (by decide) ?_
        refine q_istore_n (pc := 62) dX8_number_62 (Nat.le_of_ble_eq_true rfl) ?_
        refine q_aload_n (pc := 63) dX8_number_63 rfl ?_
        refine q_iconst (pc := 64) dX8_number_64 ?_
        refine q_V1v (pc := 65) dX8_number_65 vX8_115 rfl rfl (Nat.le_of_ble_eq_true rfl) (Nat.le_of_ble_eq_true rfl) (m_must1 hK hS hi' (fun _ => by rw [e12]; have := hi'.2; omega)) (fun σ2 hc2 => ?_)
        obtain ⟨hS2, hF2⟩ := hc2
        refine q_iload_n (pc := 68) dX8_number_68 rfl ?_
        refine q_ri (pc := 69) dX8_number_69 rfl ?_
        rw [if_pos z, e12] at hS2
        exact ⟨fun _ => e15.symm, hS2, hF2⟩
      · have e : nmS tp tl lo hi s = bdS 2 s := by unfold nmS bdS; rw [if_pos z, if_pos hd, if_neg c2, if_pos z]
        have eb : bdS 2 s = (2, s.2) := if_pos z
        rw [e]
        refine q_aload_n (pc := 0) dX8_number_0 rfl ?_
        refine q_gI (pc := 1) 16 dX8_number_1 fX8_81 rfl rfl rfl ?_
        refine q_ifne (pc := 4) (tgt := 20) dX8_number_4 (by decide) (by omega) (fun h => absurd h (by omega)) (fun h4 => ?_)
        refine q_aload_n (pc := 7) dX8_number_7 rfl ?_
        refine q_gI (pc := 8) 14 dX8_number_8 fX8_105 rfl rfl rfl ?_
        refine q_iconst (pc := 11) dX8_number_11 ?_
        refine q_icmpeq (pc := 12) (tgt := 20) dX8_number_12 (by decide) (by omega) (by omega) (fun h12 => ?_) (fun h => absurd h (by omega))
        refine q_aload_n (pc := 20) dX8_number_20 rfl ?_
        refine q_gI (pc := 21) 16 dX8_number_21 fX8_81 rfl rfl rfl ?_
        refine q_ifne (pc := 24) (tgt := 47) dX8_number_24 (by decide) (by omega) (fun h => absurd h (by omega)) (fun h24 => ?_)
        refine q_aload_n (pc := 27) dX8_number_27 rfl ?_
        refine q_gI (pc := 28) 15 dX8_number_28 fX8_94 rfl rfl rfl ?_
        refine q_i2l (pc := 31) dX8_number_31 (by omega) ?_
        refine q_iload_n (pc := 32) dX8_number_32 rfl ?_
        refine q_i2l (pc := 33) dX8_number_33 (by omega) ?_
        refine q_iload_n (pc := 34) dX8_number_34 rfl ?_
        refine q_i2l (pc := 35) dX8_number_35 (by omega) ?_
        refine q_S3i (pc := 36) dX8_number_36 vX8_60 (Nat.le_of_ble_eq_true rfl) (Nat.le_of_ble_eq_true rfl) (t_X8_in (by omega) (by omega) (by omega)) (fun r1 σ1 hc1 => ?_)
        obtain ⟨rfl, rfl⟩ := hc1
        refine q_ifneb (pc := 39) (tgt := 47) dX8_number_39 (by decide) (fun h => absurd h (by first | omega | simp_all)) (fun h39 => ?_)
        refine q_aload_n (pc := 42) dX8_number_42 rfl ?_
        refine q_iconst (pc := 43) dX8_number_43 ?_
        refine q_V1v (pc := 44) dX8_number_44 vX8_108 rfl rfl (Nat.le_of_ble_eq_true rfl) (Nat.le_of_ble_eq_true rfl) (m_bad hS hi' (by omega)) (fun σ2 hc2 => ?_)
        obtain ⟨hS2, hF2⟩ := hc2
        have e16 := hS2.2.1
        rw [eb] at e16
        have e16 : σ2 82 16 = 2 := e16
        refine q_aload_n (pc := 47) dX8_number_47 rfl ?_
        refine q_gI (pc := 48) 16 dX8_number_48 fX8_81 rfl rfl rfl ?_
        refine q_ifne (pc := 51) (tgt := 61) dX8_number_51 (by decide) (by omega) (fun h51 => ?_) (fun h => absurd h (by omega))
        refine q_iload_n (pc := 61) dX8_number_61 rfl ?_
        refine q_istore_n (pc := 62) dX8_number_62 (Nat.le_of_ble_eq_true rfl) ?_
        refine q_aload_n (pc := 63) dX8_number_63 rfl ?_
        refine q_iconst (pc := 64) dX8_number_64 ?_
        refine q_V1v (pc := 65) dX8_number_65 vX8_115 rfl rfl (Nat.le_of_ble_eq_true rfl) (Nat.le_of_ble_eq_true rfl) (m_must1 hK hS2 (bdS_in hi' (by omega)) (fun q => absurd q (by rw [eb]; simp))) (fun σ3 hc3 => ?_)
        obtain ⟨hS3, hF3⟩ := hc3
        refine q_iload_n (pc := 68) dX8_number_68 rfl ?_
        refine q_ri (pc := 69) dX8_number_69 rfl ?_
        rw [if_neg (by rw [eb]; simp)] at hS3
        exact ⟨fun q => absurd q (by rw [eb]; simp), hS3, hF2.tt hF3⟩
    · have hd : ¬ (1 ≤ dg tp tl 120 s.2 ∧ dg tp tl 120 s.2 ≤ 2) := fun q => c1 (ht.1.mpr q)
      have e : nmS tp tl lo hi s = bdS 1 s := by unfold nmS bdS; rw [if_pos z, if_neg hd, if_pos z]
      have eb : bdS 1 s = (1, s.2) := if_pos z
      rw [e]
      refine q_aload_n (pc := 0) dX8_number_0 rfl ?_
      refine q_gI (pc := 1) 16 dX8_number_1 fX8_81 rfl rfl rfl ?_
      refine q_ifne (pc := 4) (tgt := 20) dX8_number_4 (by decide) (by omega) (fun h => absurd h (by omega)) (fun h4 => ?_)
      refine q_aload_n (pc := 7) dX8_number_7 rfl ?_
      refine q_gI (pc := 8) 14 dX8_number_8 fX8_105 rfl rfl rfl ?_
      refine q_iconst (pc := 11) dX8_number_11 ?_
      refine q_icmpeq (pc := 12) (tgt := 20) dX8_number_12 (by decide) (by omega) (by omega) (fun h => absurd h (by omega)) (fun h12 => ?_)
      refine q_aload_n (pc := 15) dX8_number_15 rfl ?_
      refine q_iconst (pc := 16) dX8_number_16 ?_
      refine q_V1v (pc := 17) dX8_number_17 vX8_108 rfl rfl (Nat.le_of_ble_eq_true rfl) (Nat.le_of_ble_eq_true rfl) (m_bad hS hi' (by omega)) (fun σ1 hc1 => ?_)
      obtain ⟨hS1, hF1⟩ := hc1
      have e16 := hS1.2.1
      rw [eb] at e16
      have e16 : σ1 82 16 = 1 := e16
      refine q_aload_n (pc := 20) dX8_number_20 rfl ?_
      refine q_gI (pc := 21) 16 dX8_number_21 fX8_81 rfl rfl rfl ?_
      refine q_ifne (pc := 24) (tgt := 47) dX8_number_24 (by decide) (by omega) (fun h24 => ?_) (fun h => absurd h (by omega))
      refine q_aload_n (pc := 47) dX8_number_47 rfl ?_
      refine q_gI (pc := 48) 16 dX8_number_48 fX8_81 rfl rfl rfl ?_
      refine q_ifne (pc := 51) (tgt := 61) dX8_number_51 (by decide) (by omega) (fun h51 => ?_) (fun h => absurd h (by omega))
      refine q_iload_n (pc := 61) dX8_number_61 rfl ?_
      refine q_istore_n (pc := 62) dX8_number_62 (Nat.le_of_ble_eq_true rfl) ?_
      refine q_aload_n (pc := 63) dX8_number_63 rfl ?_
      refine q_iconst (pc := 64) dX8_number_64 ?_
      refine q_V1v (pc := 65) dX8_number_65 vX8_115 rfl rfl (Nat.le_of_ble_eq_true rfl) (Nat.le_of_ble_eq_true rfl) (m_must1 hK hS1 (bdS_in hi' (by omega)) (fun q => absurd q (by rw [eb]; simp))) (fun σ2 hc2 => ?_)
      obtain ⟨hS2, hF2⟩ := hc2
      refine q_iload_n (pc := 68) dX8_number_68 rfl ?_
      refine q_ri (pc := 69) dX8_number_69 rfl ?_
      rw [if_neg (by rw [eb]; simp)] at hS2
      exact ⟨fun q => absurd q (by rw [eb]; simp), hS2, hF1.tt hF2⟩
  · rw [nmS_f z]
    refine q_aload_n (pc := 0) dX8_number_0 rfl ?_
    refine q_gI (pc := 1) 16 dX8_number_1 fX8_81 rfl rfl rfl ?_
    refine q_ifne (pc := 4) (tgt := 20) dX8_number_4 (by decide) (by omega) (fun h4 => ?_) (fun h => absurd h (by omega))
    refine q_aload_n (pc := 20) dX8_number_20 rfl ?_
    refine q_gI (pc := 21) 16 dX8_number_21 fX8_81 rfl rfl rfl ?_
    refine q_ifne (pc := 24) (tgt := 47) dX8_number_24 (by decide) (by omega) (fun h24 => ?_) (fun h => absurd h (by omega))
    refine q_aload_n (pc := 47) dX8_number_47 rfl ?_
    refine q_gI (pc := 48) 16 dX8_number_48 fX8_81 rfl rfl rfl ?_
    refine q_ifne (pc := 51) (tgt := 61) dX8_number_51 (by decide) (by omega) (fun h51 => ?_) (fun h => absurd h (by omega))
    refine q_iload_n (pc := 61) dX8_number_61 rfl ?_
    refine q_istore_n (pc := 62) dX8_number_62 (Nat.le_of_ble_eq_true rfl) ?_
    refine q_aload_n (pc := 63) dX8_number_63 rfl ?_
    refine q_iconst (pc := 64) dX8_number_64 ?_
    refine q_V1v (pc := 65) dX8_number_65 vX8_115 rfl rfl (Nat.le_of_ble_eq_true rfl) (Nat.le_of_ble_eq_true rfl) (m_must1 hK hS hi' (fun q => absurd q z)) (fun σ1 hc1 => ?_)
    obtain ⟨hS1, hF1⟩ := hc1
    refine q_iload_n (pc := 68) dX8_number_68 rfl ?_
    refine q_ri (pc := 69) dX8_number_69 rfl ?_
    rw [if_neg z] at hS1
    exact ⟨fun q => absurd q z, hS1, hF1⟩
theorem m_kindBy {c : Int} (hc : -1000000 ≤ c ∧ c ≤ 1000) : qE G mX8_kindBy d 0 [(0, vi c)] [] σ (ri fun r σ1 => (if kb c = 0 then -1000000 else kb c) = r ∧ σ = σ1) := by
  refine q_iload_n (pc := 0) dX8_kindBy_0 rfl ?_
  refine q_bipush (pc := 1) dX8_kindBy_1 (by decide +kernel) ?_
  refine q_icmpne (pc := 3) (tgt := 10) dX8_kindBy_3 (by decide) (by omega) (by omega) (fun h3 => ?_) (fun h3 => ?_)
  · refine q_iload_n (pc := 10) dX8_kindBy_10 rfl ?_
    refine q_bipush (pc := 11) dX8_kindBy_11 (by decide +kernel) ?_
    refine q_icmpne (pc := 13) (tgt := 20) dX8_kindBy_13 (by decide) (by omega) (by omega) (fun h13 => ?_) (fun h13 => ?_)
    · refine q_iload_n (pc := 20) dX8_kindBy_20 rfl ?_
      refine q_bipush (pc := 21) dX8_kindBy_21 (by decide +kernel) ?_
      refine q_icmpne (pc := 23) (tgt := 30) dX8_kindBy_23 (by decide) (by omega) (by omega) (fun h23 => ?_) (fun h23 => ?_)
      · refine q_iload_n (pc := 30) dX8_kindBy_30 rfl ?_
        refine q_bipush (pc := 31) dX8_kindBy_31 (by decide +kernel) ?_
        refine q_icmpne (pc := 33) (tgt := 40) dX8_kindBy_33 (by decide) (by omega) (by omega) (fun h33 => ?_) (fun h33 => ?_)
        · refine q_iload_n (pc := 40) dX8_kindBy_40 rfl ?_
          refine q_bipush (pc := 41) dX8_kindBy_41 (by decide +kernel) ?_
          refine q_icmpne (pc := 43) (tgt := 50) dX8_kindBy_43 (by decide) (by omega) (by omega) (fun h43 => ?_) (fun h43 => ?_)
          · refine q_ldc (pc := 50) (n := -1000000) kX8_93 dX8_kindBy_50 ?_
            refine q_ri (pc := 52) dX8_kindBy_52 rfl ?_
            refine ⟨?_, rfl⟩
            unfold kb
            repeat' (first | rw [if_pos (by omega)] | rw [if_neg (by omega)])
          · refine q_iconst (pc := 46) dX8_kindBy_46 ?_
            refine q_goto (pc := 47) (tgt := 52) dX8_kindBy_47 (by decide) ?_
            refine q_ri (pc := 52) dX8_kindBy_52 rfl ?_
            refine ⟨?_, rfl⟩
            unfold kb
            repeat' (first | rw [if_pos (by omega)] | rw [if_neg (by omega)])
        · refine q_iconst (pc := 36) dX8_kindBy_36 ?_
          refine q_goto (pc := 37) (tgt := 52) dX8_kindBy_37 (by decide) ?_
          refine q_ri (pc := 52) dX8_kindBy_52 rfl ?_
          refine ⟨?_, rfl⟩
          unfold kb
          repeat' (first | rw [if_pos (by omega)] | rw [if_neg (by omega)])
      · refine q_iconst (pc := 26) dX8_kindBy_26 ?_
        refine q_goto (pc := 27) (tgt := 52) dX8_kindBy_27 (by decide) ?_
        refine q_ri (pc := 52) dX8_kindBy_52 rfl ?_
        refine ⟨?_, rfl⟩
        unfold kb
        repeat' (first | rw [if_pos (by omega)] | rw [if_neg (by omega)])
    · refine q_iconst (pc := 16) dX8_kindBy_16 ?_
      refine q_goto (pc := 17) (tgt := 52) dX8_kindBy_17 (by decide) ?_
      refine q_ri (pc := 52) dX8_kindBy_52 rfl ?_
      refine ⟨?_, rfl⟩
      unfold kb
      repeat' (first | rw [if_pos (by omega)] | rw [if_neg (by omega)])
  · refine q_iconst (pc := 6) dX8_kindBy_6 ?_
    refine q_goto (pc := 7) (tgt := 52) dX8_kindBy_7 (by decide) ?_
    refine q_ri (pc := 52) dX8_kindBy_52 rfl ?_
    refine ⟨?_, rfl⟩
    unfold kb
    repeat' (first | rw [if_pos (by omega)] | rw [if_neg (by omega)])
theorem kb_let {c : Int} (h : kb c ≠ 0) : 97 ≤ c ∧ c ≤ 122 := by
  unfold kb at h
  repeat' (first | omega | split at h)
theorem m_isSort (hK : TK tp tl) (hS : MS σ tp tl s) (hi : sIn tl s) : qE G mX8_isSort (d + 1) 0 [(0, vr 82)] [] σ (ri fun r σ1 => bi (s.1 = 0 ∧ s.2 < tl ∧ kb (tp s.2) ≠ 0) = r ∧ σ = σ1) := by
  obtain ⟨g1, g2, g3, g4, g5⟩ := id hS
  have hi1 := hi.1
  have g5 : (0 ≤ σ 82 14 ∧ σ 82 14 ≤ 4) ∧ -1000000 ≤ σ 82 15 ∧ σ 82 15 ≤ 1000 := g5
  by_cases z : s.1 = 0
  · have hl := tok_let hK (g4 z) hi.2 (c := 97) (by omega)
    have hl4 := hl.2.2.2
    by_cases c1 : σ 82 14 = 2
    · obtain ⟨b1, b2, b3, b4, b5⟩ := hl4 c1
      have hk := kb_in (σ 82 15)
      refine q_aload_n (pc := 0) dX8_isSort_0 rfl ?_
      refine q_gI (pc := 1) 16 dX8_isSort_1 fX8_81 rfl rfl rfl ?_
      refine q_ifne (pc := 4) (tgt := 31) dX8_isSort_4 (by decide) (by omega) (fun h => absurd h (by omega)) (fun h4 => ?_)
      refine q_aload_n (pc := 7) dX8_isSort_7 rfl ?_
      refine q_gI (pc := 8) 14 dX8_isSort_8 fX8_105 rfl rfl rfl ?_
      refine q_iconst (pc := 11) dX8_isSort_11 ?_
      refine q_icmpne (pc := 12) (tgt := 31) dX8_isSort_12 (by decide) (by omega) (by omega) (fun h => absurd h (by omega)) (fun h12 => ?_)
      refine q_aload_n (pc := 15) dX8_isSort_15 rfl ?_
      refine q_gI (pc := 16) 15 dX8_isSort_16 fX8_94 rfl rfl rfl ?_
      refine q_S1i (pc := 19) dX8_isSort_19 vX8_122 (Nat.le_of_ble_eq_true rfl) (Nat.le_of_ble_eq_true rfl) (m_kindBy (by omega)) (fun r1 σ1 hc1 => ?_)
      obtain ⟨rfl, rfl⟩ := hc1
      have hr : -1000000 ≤ (if kb (σ 82 15) = 0 then -1000000 else kb (σ 82 15)) ∧ (if kb (σ 82 15) = 0 then -1000000 else kb (σ 82 15)) ≤ 5 := by split <;> omega
      refine q_ldc (pc := 22) (n := -1000000) kX8_93 dX8_isSort_22 ?_
      refine q_icmpeq (pc := 24) (tgt := 31) dX8_isSort_24 (by decide) (by omega) (by omega) (fun h24 => ?_) (fun h24 => ?_)
      · refine q_iconst (pc := 31) dX8_isSort_31 ?_
        refine q_rz (pc := 32) dX8_isSort_32 rfl (by first | exact bi_01 _ | omega) ?_
        refine ⟨?_, rfl⟩
        rw [b4] at h24
        first
        | exact bi_t ⟨z, b1, fun q => h24 (if_pos q)⟩
        | exact bi_f (fun q => by rw [if_neg q.2.2] at h24; have := kb_in (tp s.2); omega)
      · refine q_iconst (pc := 27) dX8_isSort_27 ?_
        refine q_goto (pc := 28) (tgt := 32) dX8_isSort_28 (by decide) ?_
        refine q_rz (pc := 32) dX8_isSort_32 rfl (by first | exact bi_01 _ | omega) ?_
        refine ⟨?_, rfl⟩
        rw [b4] at h24
        first
        | exact bi_t ⟨z, b1, fun q => h24 (if_pos q)⟩
        | exact bi_f (fun q => by rw [if_neg q.2.2] at h24; have := kb_in (tp s.2); omega)
    · have hn : ¬ (s.1 = 0 ∧ s.2 < tl ∧ kb (tp s.2) ≠ 0) := fun q => by
        have hl2 := tok_let hK (g4 z) hi.2 (kb_let q.2.2)
        exact c1 (hl2.1.mpr ⟨q.2.1, rfl⟩).1
      refine q_aload_n (pc := 0) dX8_isSort_0 rfl ?_
      refine q_gI (pc := 1) 16 dX8_isSort_1 fX8_81 rfl rfl rfl ?_
      refine q_ifne (pc := 4) (tgt := 31) dX8_isSort_4 (by decide) (by omega) (fun h => absurd h (by omega)) (fun h4 => ?_)
      refine q_aload_n (pc := 7) dX8_isSort_7 rfl ?_
      refine q_gI (pc := 8) 14 dX8_isSort_8 fX8_105 rfl rfl rfl ?_
      refine q_iconst (pc := 11) dX8_isSort_11 ?_
      refine q_icmpne (pc := 12) (tgt := 31) dX8_isSort_12 (by decide) (by omega) (by omega) (fun h12 => ?_) (fun h => absurd h (by omega))
      refine q_iconst (pc := 31) dX8_isSort_31 ?_
      refine q_rz (pc := 32) dX8_isSort_32 rfl (by first | exact bi_01 _ | omega) ?_
      exact ⟨bi_f hn, rfl⟩
  · skip
    refine q_aload_n (pc := 0) dX8_isSort_0 rfl ?_
    refine q_gI (pc := 1) 16 dX8_isSort_1 fX8_81 rfl rfl rfl ?_
    refine q_ifne (pc := 4) (tgt := 31) dX8_isSort_4 (by decide) (by omega) (fun h4 => ?_) (fun h => absurd h (by omega))
    refine q_iconst (pc := 31) dX8_isSort_31 ?_
    refine q_rz (pc := 32) dX8_isSort_32 rfl (by first | exact bi_01 _ | omega) ?_
    exact ⟨bi_f (fun q => z q.1), rfl⟩
end T8
