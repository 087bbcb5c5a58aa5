/-! ===== the reference: deeds ===== -/
section T8
variable {G : qGl} {d : Nat} {σ : qM} {tp : Int → Int} {tl : Int} {s : Int × Int} {g : Int → Int}
theorem m_readDeed (hK : TK tp tl) (hS : MS σ tp tl s) (hI : sIn tl s) (h0 : s.1 = 0) (hp : s.2 < tl ∧ kb (tp s.2) ≠ 0) (hg5 : 0 ≤ g 5 ∧ g 5 ≤ 7) (hg : RwR σ 87 g) : qE G mX8_readDeed (d + 5) 0 [(0, vr 82)] [] σ (rv fun σ1 => MS σ1 tp tl (dS1 tp tl (s, g)).1 ∧ F7 σ σ1 ∧ ((dS1 tp tl (s, g)).1.1 = 0 → RwR σ1 87 (dS1 tp tl (s, g)).2)) := by
  obtain ⟨g1, g2, g3, g4, g5⟩ := id hS
  have g5 : (0 ≤ σ 82 14 ∧ σ 82 14 ≤ 4) ∧ -1000000 ≤ σ 82 15 ∧ σ 82 15 ≤ 1000 := g5
  have hl := tok_let hK (g4 h0) hI.2 (kb_let hp.2)
  have y := hl.1.mpr ⟨hp.1, rfl⟩
  have h12 := hl.2.2.1 ⟨hp.1, rfl⟩
  have e5 : σ 87 5 = g 5 := hg 5 (by omega) (by omega)
  have hk := kb_in (tp s.2)
  have ek : (if kb (σ 82 15) = 0 then -1000000 else kb (σ 82 15)) = kb (tp s.2) := by rw [y.2, if_neg hp.2]
  by_cases c7 : g 5 = 7
  · have e : dS1 tp tl (s, g) = ((3, s.2), g) := by
      unfold dS1
      rw [if_pos (show (s, g).1.2 < tl ∧ kb (tp (s, g).1.2) ≠ 0 from hp), if_pos (show (s, g).2 5 = 7 from c7)]
    have eb : bdS 3 s = (3, s.2) := if_pos h0
    rw [e]
    have i3 : sIn tl (3, s.2) := ⟨by show (0 : Int) ≤ 3 ∧ (3 : Int) ≤ 3; omega, hI.2⟩
    have n3 : ((3 : Int), s.2).1 ≠ 0 := by simp
    refine q_aload_n (pc := 0) dX8_readDeed_0 rfl ?_
    refine q_gI (pc := 1) 15 dX8_readDeed_1 fX8_94 rfl rfl rfl ?_
    refine q_S1i (pc := 4) dX8_readDeed_4 vX8_122 (Nat.le_of_ble_eq_true rfl) (Nat.le_of_ble_eq_true rfl) (m_kindBy (by omega)) (fun r1 σ1 hc1 => ?_)
    obtain ⟨rfl, rfl⟩ := hc1
    rw [ek]
    refine q_istore_n (pc := 7) dX8_readDeed_7 (Nat.le_of_ble_eq_true rfl) ?_
    refine q_aload_n (pc := 8) dX8_readDeed_8 rfl ?_
    refine q_getR (pc := 9) dX8_readDeed_9 fX8_22 rfl rfl ?_
    refine q_iconst (pc := 12) dX8_readDeed_12 ?_
    refine q_iald (pc := 13) dX8_readDeed_13 rfl (by omega) ?_
    refine q_bipush (pc := 14) dX8_readDeed_14 (by decide +kernel) ?_
    refine q_icmpne (pc := 16) (tgt := 24) dX8_readDeed_16 (by decide) (by omega) (by omega) (fun h => absurd h (by omega)) (fun h16 => ?_)
    refine q_aload_n (pc := 19) dX8_readDeed_19 rfl ?_
    refine q_iconst (pc := 20) dX8_readDeed_20 ?_
    refine q_V1v (pc := 21) dX8_readDeed_21 vX8_108 rfl rfl (Nat.le_of_ble_eq_true rfl) (Nat.le_of_ble_eq_true rfl) (m_bad hS hI (by omega)) (fun σ2 hc2 => ?_)
    obtain ⟨hS2, hF2⟩ := hc2
    rw [eb] at hS2
    refine q_aload_n (pc := 24) dX8_readDeed_24 rfl ?_
    refine q_iconst (pc := 25) dX8_readDeed_25 ?_
    refine q_V1v (pc := 26) dX8_readDeed_26 vX8_115 rfl rfl (Nat.le_of_ble_eq_true rfl) (Nat.le_of_ble_eq_true rfl) (m_must1 hK hS2 i3 (fun q => absurd q n3)) (fun σ3 hc3 => ?_)
    obtain ⟨hS3, hF3⟩ := hc3
    rw [if_neg n3] at hS3
    refine q_aload_n (pc := 29) dX8_readDeed_29 rfl ?_
    refine q_iconst (pc := 30) dX8_readDeed_30 ?_
    refine q_iconst (pc := 31) dX8_readDeed_31 ?_
    refine q_V2i (pc := 32) dX8_readDeed_32 vX8_128 rfl rfl (Nat.le_of_ble_eq_true rfl) (Nat.le_of_ble_eq_true rfl) (m_number hK hS3 i3 (by omega) (by omega)) (fun r4 σ4 hc4 => ?_)
    obtain ⟨hr4, hS4, hF4⟩ := hc4
    rw [nmS_f n3] at hS4
    refine q_istore_n (pc := 35) dX8_readDeed_35 (Nat.le_of_ble_eq_true rfl) ?_
    refine q_aload_n (pc := 36) dX8_readDeed_36 rfl ?_
    refine q_bipush (pc := 37) dX8_readDeed_37 (by decide +kernel) ?_
    refine q_V1v (pc := 39) dX8_readDeed_39 vX8_132 rfl rfl (Nat.le_of_ble_eq_true rfl) (Nat.le_of_ble_eq_true rfl) (m_mustSign hK hS4 i3 (by omega)) (fun σ5 hc5 => ?_)
    obtain ⟨hS5, hF5⟩ := hc5
    rw [tkS_f n3] at hS5
    refine q_aload_n (pc := 42) dX8_readDeed_42 rfl ?_
    refine q_iconst (pc := 43) dX8_readDeed_43 ?_
    refine q_bipush (pc := 44) dX8_readDeed_44 (by decide +kernel) ?_
    refine q_V2i (pc := 46) dX8_readDeed_46 vX8_128 rfl rfl (Nat.le_of_ble_eq_true rfl) (Nat.le_of_ble_eq_true rfl) (m_number hK hS5 i3 (by omega) (by omega)) (fun r6 σ6 hc6 => ?_)
    obtain ⟨hr6, hS6, hF6⟩ := hc6
    rw [nmS_f n3] at hS6
    refine q_istore_n (pc := 49) dX8_readDeed_49 (Nat.le_of_ble_eq_true rfl) ?_
    refine q_aload_n (pc := 50) dX8_readDeed_50 rfl ?_
    refine q_bipush (pc := 51) dX8_readDeed_51 (by decide +kernel) ?_
    refine q_V1v (pc := 53) dX8_readDeed_53 vX8_132 rfl rfl (Nat.le_of_ble_eq_true rfl) (Nat.le_of_ble_eq_true rfl) (m_mustSign hK hS6 i3 (by omega)) (fun σ7 hc7 => ?_)
    obtain ⟨hS7, hF7⟩ := hc7
    rw [tkS_f n3] at hS7
    have e16 : σ7 82 16 = 3 := hS7.2.1
    refine q_aload_n (pc := 56) dX8_readDeed_56 rfl ?_
    refine q_gI (pc := 57) 16 dX8_readDeed_57 fX8_81 rfl rfl rfl ?_
    refine q_ifne (pc := 60) (tgt := 114) dX8_readDeed_60 (by decide) (by omega) (fun h60 => ?_) (fun h => absurd h (by omega))
    refine q_rv (pc := 114) dX8_readDeed_114 rfl ?_
    exact ⟨hS7, ((((hF2.tt hF3).tt hF4).tt hF5).tt hF6).f7.tt hF7.f7, fun z => absurd z (by simp)⟩
  · have e : dS1 tp tl (s, g) = (deS tp tl s, deR tp tl s g) := by
      unfold dS1
      rw [if_pos (show (s, g).1.2 < tl ∧ kb (tp (s, g).1.2) ≠ 0 from hp), if_neg (show ¬ (s, g).2 5 = 7 from c7)]
    rw [e]
    have ia : sIn tl (0, s.2 + 1) := ⟨by show (0 : Int) ≤ 0 ∧ (0 : Int) ≤ 3; omega, by show 0 ≤ s.2 + 1 ∧ s.2 + 1 ≤ tl; have := hI.2; have := hp.1; omega⟩
    have ib : sIn tl (nmS tp tl 0 2 (0, s.2 + 1)) := nmS_in ia
    have ic : sIn tl (tkS tp tl 44 (nmS tp tl 0 2 (0, s.2 + 1))) := tkS_in ib
    have ie : sIn tl (nmS tp tl 1 20 (tkS tp tl 44 (nmS tp tl 0 2 (0, s.2 + 1)))) := nmS_in ic
    have ig : sIn tl (deS tp tl s) := tkS_in ie
    have ig1 := ig.1
    by_cases cf : (deS tp tl s).1 = 0
    · skip
      refine q_aload_n (pc := 0) dX8_readDeed_0 rfl ?_
      refine q_gI (pc := 1) 15 dX8_readDeed_1 fX8_94 rfl rfl rfl ?_
      refine q_S1i (pc := 4) dX8_readDeed_4 vX8_122 (Nat.le_of_ble_eq_true rfl) (Nat.le_of_ble_eq_true rfl) (m_kindBy (by omega)) (fun r1 σ1 hc1 => ?_)
      obtain ⟨rfl, rfl⟩ := hc1
      rw [ek]
      refine q_istore_n (pc := 7) dX8_readDeed_7 (Nat.le_of_ble_eq_true rfl) ?_
      refine q_aload_n (pc := 8) dX8_readDeed_8 rfl ?_
      refine q_getR (pc := 9) dX8_readDeed_9 fX8_22 rfl rfl ?_
      refine q_iconst (pc := 12) dX8_readDeed_12 ?_
      refine q_iald (pc := 13) dX8_readDeed_13 rfl (by omega) ?_
      refine q_bipush (pc := 14) dX8_readDeed_14 (by decide +kernel) ?_
      refine q_icmpne (pc := 16) (tgt := 24) dX8_readDeed_16 (by decide) (by omega) (by omega) (fun h16 => ?_) (fun h => absurd h (by omega))
      refine q_aload_n (pc := 24) dX8_readDeed_24 rfl ?_
      refine q_iconst (pc := 25) dX8_readDeed_25 ?_
      refine q_V1v (pc := 26) dX8_readDeed_26 vX8_115 rfl rfl (Nat.le_of_ble_eq_true rfl) (Nat.le_of_ble_eq_true rfl) (m_must1 hK hS hI (fun _ => by rw [h12]; have := hI.2; have := hp.1; omega)) (fun σ2 hc2 => ?_)
      obtain ⟨hS2, hF2⟩ := hc2
      rw [if_pos h0, h12] at hS2
      refine q_aload_n (pc := 29) dX8_readDeed_29 rfl ?_
      refine q_iconst (pc := 30) dX8_readDeed_30 ?_
      refine q_iconst (pc := 31) dX8_readDeed_31 ?_
      refine q_V2i (pc := 32) dX8_readDeed_32 vX8_128 rfl rfl (Nat.le_of_ble_eq_true rfl) (Nat.le_of_ble_eq_true rfl) (m_number hK hS2 ia (by omega) (by omega)) (fun r3 σ3 hc3 => ?_)
      obtain ⟨hr3, hS3, hF3⟩ := hc3
      refine q_istore_n (pc := 35) dX8_readDeed_35 (Nat.le_of_ble_eq_true rfl) ?_
      refine q_aload_n (pc := 36) dX8_readDeed_36 rfl ?_
      refine q_bipush (pc := 37) dX8_readDeed_37 (by decide +kernel) ?_
      refine q_V1v (pc := 39) dX8_readDeed_39 vX8_132 rfl rfl (Nat.le_of_ble_eq_true rfl) (Nat.le_of_ble_eq_true rfl) (m_mustSign hK hS3 ib (by omega)) (fun σ4 hc4 => ?_)
      obtain ⟨hS4, hF4⟩ := hc4
      refine q_aload_n (pc := 42) dX8_readDeed_42 rfl ?_
      refine q_iconst (pc := 43) dX8_readDeed_43 ?_
      refine q_bipush (pc := 44) dX8_readDeed_44 (by decide +kernel) ?_
      refine q_V2i (pc := 46) dX8_readDeed_46 vX8_128 rfl rfl (Nat.le_of_ble_eq_true rfl) (Nat.le_of_ble_eq_true rfl) (m_number hK hS4 ic (by omega) (by omega)) (fun r5 σ5 hc5 => ?_)
      obtain ⟨hr5, hS5, hF5⟩ := hc5
      refine q_istore_n (pc := 49) dX8_readDeed_49 (Nat.le_of_ble_eq_true rfl) ?_
      refine q_aload_n (pc := 50) dX8_readDeed_50 rfl ?_
      refine q_bipush (pc := 51) dX8_readDeed_51 (by decide +kernel) ?_
      refine q_V1v (pc := 53) dX8_readDeed_53 vX8_132 rfl rfl (Nat.le_of_ble_eq_true rfl) (Nat.le_of_ble_eq_true rfl) (m_mustSign hK hS5 ie (by omega)) (fun σ6 hc6 => ?_)
      obtain ⟨hS6, hF6⟩ := hc6
      have hSd : MS σ6 tp tl (deS tp tl s) := hS6
      have e16 := hSd.2.1
      have hFx := (((hF2.tt hF3).tt hF4).tt hF5).tt hF6
      have hgx := F6.rw hFx hg
      have e5x : σ6 87 5 = g 5 := hgx 5 (by omega) (by omega)
      refine q_aload_n (pc := 56) dX8_readDeed_56 rfl ?_
      refine q_gI (pc := 57) 16 dX8_readDeed_57 fX8_81 rfl rfl rfl ?_
      refine q_ifne (pc := 60) (tgt := 114) dX8_readDeed_60 (by decide) (by omega) (fun h => absurd h (by omega)) (fun h60 => ?_)
      refine q_bipush (pc := 63) dX8_readDeed_63 (by decide +kernel) ?_
      refine q_iconst (pc := 65) dX8_readDeed_65 ?_
      refine q_aload_n (pc := 66) dX8_readDeed_66 rfl ?_
      refine q_getR (pc := 67) dX8_readDeed_67 fX8_22 rfl rfl ?_
      refine q_iconst (pc := 70) dX8_readDeed_70 ?_
      refine q_iald (pc := 71) dX8_readDeed_71 rfl (by omega) ?_
      refine q_imul (pc := 72) dX8_readDeed_72 ?_
      refine q_iadd (pc := 73) dX8_readDeed_73 ?_
      refine q_istore (pc := 74) dX8_readDeed_74 (Nat.le_of_ble_eq_true rfl) ?_
      refine q_aload_n (pc := 76) dX8_readDeed_76 rfl ?_
      refine q_getR (pc := 77) dX8_readDeed_77 fX8_22 rfl rfl ?_
      refine q_iload (pc := 80) dX8_readDeed_80 rfl ?_
      refine q_iload_n (pc := 82) dX8_readDeed_82 rfl ?_
      refine q_iast (pc := 83) dX8_readDeed_83 rfl (by omega) ?_
      refine q_aload_n (pc := 84) dX8_readDeed_84 rfl ?_
      refine q_getR (pc := 85) dX8_readDeed_85 fX8_22 rfl rfl ?_
      refine q_iload (pc := 88) dX8_readDeed_88 rfl ?_
      refine q_iconst (pc := 90) dX8_readDeed_90 ?_
      refine q_iadd (pc := 91) dX8_readDeed_91 ?_
      refine q_iload_n (pc := 92) dX8_readDeed_92 rfl ?_
      refine q_iast (pc := 93) dX8_readDeed_93 rfl (by omega) ?_
      refine q_aload_n (pc := 94) dX8_readDeed_94 rfl ?_
      refine q_getR (pc := 95) dX8_readDeed_95 fX8_22 rfl rfl ?_
      refine q_iload (pc := 98) dX8_readDeed_98 rfl ?_
      refine q_iconst (pc := 100) dX8_readDeed_100 ?_
      refine q_iadd (pc := 101) dX8_readDeed_101 ?_
      refine q_iload_n (pc := 102) dX8_readDeed_102 rfl ?_
      refine q_iast (pc := 103) dX8_readDeed_103 rfl (by omega) ?_
      refine q_aload_n (pc := 104) dX8_readDeed_104 rfl ?_
      refine q_getR (pc := 105) dX8_readDeed_105 fX8_22 rfl rfl ?_
      refine q_iconst (pc := 108) dX8_readDeed_108 ?_
      refine q_dup2 (pc := 109) dX8_readDeed_109 rfl rfl ?_
      refine q_iald (pc := 110) dX8_readDeed_110 rfl (by omega) ?_
      refine q_iconst (pc := 111) dX8_readDeed_111 ?_
      refine q_iadd (pc := 112) dX8_readDeed_112 ?_
      refine q_iast (pc := 113) dX8_readDeed_113 rfl (by omega) ?_
      refine q_rv (pc := 114) dX8_readDeed_114 rfl ?_
      refine ⟨hSd.up.up.up.up, (((hFx.f7.tt F7.up).tt F7.up).tt F7.up).tt F7.up, fun z => ?_⟩
      have z4 := (tkS_ok (show (tkS tp tl 59 (nmS tp tl 1 20 (tkS tp tl 44 (nmS tp tl 0 2 (0, s.2 + 1))))).1 = 0 from z)).1
      have z2 := (tkS_ok (nmS_ok z4).1).1
      have q := RwR.up (i := 5) (v := g 5 + 1) (RwR.up (i := 13 + 3 * g 5 + 2) (v := r5) (RwR.up (i := 13 + 3 * g 5 + 1) (v := r3) (RwR.up (i := 13 + 3 * g 5) (v := kb (tp s.2)) hgx)))
      rw [← hr3 z2, ← hr5 z4] at q
      have ee : ∀ a b c : Int, up (up (up σ6 87 (13 + 3 * g 5) a) 87 (13 + 3 * g 5 + 1) b) 87 (13 + 3 * g 5 + 2) c 87 5 = g 5 := fun a b c => by
        rw [up_same, if_neg (by omega), up_same, if_neg (by omega), up_same, if_neg (by omega)]; exact e5x
      rw [e5x, ee, ← hr3 z2, ← hr5 z4]
      unfold deR
      rw [show 14 + 3 * g 5 = 13 + 3 * g 5 + 1 by omega, show 15 + 3 * g 5 = 13 + 3 * g 5 + 2 by omega]
      exact q
    · skip
      refine q_aload_n (pc := 0) dX8_readDeed_0 rfl ?_
      refine q_gI (pc := 1) 15 dX8_readDeed_1 fX8_94 rfl rfl rfl ?_
      refine q_S1i (pc := 4) dX8_readDeed_4 vX8_122 (Nat.le_of_ble_eq_true rfl) (Nat.le_of_ble_eq_true rfl) (m_kindBy (by omega)) (fun r1 σ1 hc1 => ?_)
      obtain ⟨rfl, rfl⟩ := hc1
      rw [ek]
      refine q_istore_n (pc := 7) dX8_readDeed_7 (Nat.le_of_ble_eq_true rfl) ?_
      refine q_aload_n (pc := 8) dX8_readDeed_8 rfl ?_
      refine q_getR (pc := 9) dX8_readDeed_9 fX8_22 rfl rfl ?_
      refine q_iconst (pc := 12) dX8_readDeed_12 ?_
      refine q_iald (pc := 13) dX8_readDeed_13 rfl (by omega) ?_
      refine q_bipush (pc := 14) dX8_readDeed_14 (by decide +kernel) ?_
      refine q_icmpne (pc := 16) (tgt := 24) dX8_readDeed_16 (by decide) (by omega) (by omega) (fun h16 => ?_) (fun h => absurd h (by omega))
      refine q_aload_n (pc := 24) dX8_readDeed_24 rfl ?_
      refine q_iconst (pc := 25) dX8_readDeed_25 ?_
      refine q_V1v (pc := 26) dX8_readDeed_26 vX8_115 rfl rfl (Nat.le_of_ble_eq_true rfl) (Nat.le_of_ble_eq_true rfl) (m_must1 hK hS hI (fun _ => by rw [h12]; have := hI.2; have := hp.1; omega)) (fun σ2 hc2 => ?_)
      obtain ⟨hS2, hF2⟩ := hc2
      rw [if_pos h0, h12] at hS2
      refine q_aload_n (pc := 29) dX8_readDeed_29 rfl ?_
      refine q_iconst (pc := 30) dX8_readDeed_30 ?_
      refine q_iconst (pc := 31) dX8_readDeed_31 ?_
      refine q_V2i (pc := 32) dX8_readDeed_32 vX8_128 rfl rfl (Nat.le_of_ble_eq_true rfl) (Nat.le_of_ble_eq_true rfl) (m_number hK hS2 ia (by omega) (by omega)) (fun r3 σ3 hc3 => ?_)
      obtain ⟨hr3, hS3, hF3⟩ := hc3
      refine q_istore_n (pc := 35) dX8_readDeed_35 (Nat.le_of_ble_eq_true rfl) ?_
      refine q_aload_n (pc := 36) dX8_readDeed_36 rfl ?_
      refine q_bipush (pc := 37) dX8_readDeed_37 (by decide +kernel) ?_
      refine q_V1v (pc := 39) dX8_readDeed_39 vX8_132 rfl rfl (Nat.le_of_ble_eq_true rfl) (Nat.le_of_ble_eq_true rfl) (m_mustSign hK hS3 ib (by omega)) (fun σ4 hc4 => ?_)
      obtain ⟨hS4, hF4⟩ := hc4
      refine q_aload_n (pc := 42) dX8_readDeed_42 rfl ?_
      refine q_iconst (pc := 43) dX8_readDeed_43 ?_
      refine q_bipush (pc := 44) dX8_readDeed_44 (by decide +kernel) ?_
      refine q_V2i (pc := 46) dX8_readDeed_46 vX8_128 rfl rfl (Nat.le_of_ble_eq_true rfl) (Nat.le_of_ble_eq_true rfl) (m_number hK hS4 ic (by omega) (by omega)) (fun r5 σ5 hc5 => ?_)
      obtain ⟨hr5, hS5, hF5⟩ := hc5
      refine q_istore_n (pc := 49) dX8_readDeed_49 (Nat.le_of_ble_eq_true rfl) ?_
      refine q_aload_n (pc := 50) dX8_readDeed_50 rfl ?_
      refine q_bipush (pc := 51) dX8_readDeed_51 (by decide +kernel) ?_
      refine q_V1v (pc := 53) dX8_readDeed_53 vX8_132 rfl rfl (Nat.le_of_ble_eq_true rfl) (Nat.le_of_ble_eq_true rfl) (m_mustSign hK hS5 ie (by omega)) (fun σ6 hc6 => ?_)
      obtain ⟨hS6, hF6⟩ := hc6
      have hSd : MS σ6 tp tl (deS tp tl s) := hS6
      have e16 := hSd.2.1
      have hFx := (((hF2.tt hF3).tt hF4).tt hF5).tt hF6
      have hgx := F6.rw hFx hg
      have e5x : σ6 87 5 = g 5 := hgx 5 (by omega) (by omega)
      refine q_aload_n (pc := 56) dX8_readDeed_56 rfl ?_
      refine q_gI (pc := 57) 16 dX8_readDeed_57 fX8_81 rfl rfl rfl ?_
      refine q_ifne (pc := 60) (tgt := 114) dX8_readDeed_60 (by decide) (by omega) (fun h60 => ?_) (fun h => absurd h (by omega))
      refine q_rv (pc := 114) dX8_readDeed_114 rfl ?_
      exact ⟨hSd, hFx.f7, fun z => absurd z (by omega)⟩
end T8
