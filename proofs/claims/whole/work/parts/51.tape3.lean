/-! ===== the class: deeds of a text ===== -/
def dS1 (tp : Int → Int) (tl : Int) (z : (Int × Int) × (Int → Int)) : (Int × Int) × (Int → Int) := if z.1.2 < tl ∧ kb (tp z.1.2) ≠ 0 then (if z.2 5 = 7 then ((3, z.1.2), z.2) else (deS tp tl z.1, deR tp tl z.1 z.2)) else (((if z.1.2 < tl ∧ tp z.1.2 = 119 ∧ z.2 5 = 0 then 3 else 1), z.1.2), z.2)
theorem dsL_f {tp : Int → Int} {tl : Int} {z : (Int × Int) × (Int → Int)} (h : z.1.1 ≠ 0) : ∀ m, dsL tp tl m z = z
  | 0 => rfl
  | _ + 1 => if_neg h
theorem dsL_s {tp : Int → Int} {tl : Int} {z : (Int × Int) × (Int → Int)} (h : z.1.1 = 0) (he : ¬ (z.1.2 = tl ∧ 0 < z.2 5)) (m : Nat) : dsL tp tl (m + 1) z = dsL tp tl m (dS1 tp tl z) := by
  unfold dS1
  show (if z.1.1 = 0 then _ else z) = _
  rw [if_pos h]
  by_cases c : z.1.2 < tl ∧ kb (tp z.1.2) ≠ 0
  · rw [if_pos c, if_pos c]
    by_cases c2 : z.2 5 = 7
    · rw [if_pos c2, if_pos c2, dsL_f (by simp)]
    · rw [if_neg c2, if_neg c2]
  · rw [if_neg c, if_neg c, if_neg he]
    exact (dsL_f (by simp only; split <;> omega) m).symm
theorem dsL_e {tp : Int → Int} {tl : Int} {z : (Int × Int) × (Int → Int)} (h : z.1.1 = 0) (he : z.1.2 = tl ∧ 0 < z.2 5) (m : Nat) : dsL tp tl (m + 1) z = z := by
  show (if z.1.1 = 0 then _ else z) = _
  rw [if_pos h, if_neg (fun q => by have := q.1; omega), if_pos he]
section T6
variable {G : qGl} {d : Nat} {σ : qM} {tp : Int → Int} {tl : Int} {s : Int × Int} {g : Int → Int}
theorem kb_in (c : Int) : 0 ≤ kb c ∧ kb c ≤ 5 := by
  unfold kb
  repeat' split
  all_goals omega
theorem x_kindTold {c : Int} (hc : 0 ≤ c ∧ c ≤ 255) : qE G mX6_kindTold d 0 [(0, vi c)] [] σ (ri fun r σ1 => kb c = r ∧ σ = σ1) := by
  refine q_iload_n (pc := 0) dX6_kindTold_0 rfl ?_
  rcases (show c = 100 ∨ c = 111 ∨ c = 115 ∨ c = 116 ∨ c = 117 ∨ (c ≠ 100 ∧ c ≠ 111 ∧ c ≠ 115 ∧ c ≠ 116 ∧ c ≠ 117) by omega) with hs1 | hs1 | hs1 | hs1 | hs1 | hs1
  · refine q_lsw (pc := 1) (off := 51) (tgt := 52) dX6_kindTold_1 (by omega) (by decide) (by show Op.lookupswitch.offset [(100, 51), (111, 53), (115, 55), (116, 59), (117, 57)] 61 _ = _; rw [Op.lookupswitch.offset_cons, if_pos (by omega)]) (by decide) ?_
    refine q_iconst (pc := 52) dX6_kindTold_52 ?_
    refine q_ri (pc := 53) dX6_kindTold_53 rfl ?_
    refine ⟨?_, rfl⟩
    unfold kb
    repeat' (first | rw [if_pos (by omega)] | rw [if_neg (by omega)])
  · refine q_lsw (pc := 1) (off := 53) (tgt := 54) dX6_kindTold_1 (by omega) (by decide) (by show Op.lookupswitch.offset [(100, 51), (111, 53), (115, 55), (116, 59), (117, 57)] 61 _ = _; rw [Op.lookupswitch.offset_cons, if_neg (by omega)]; rw [Op.lookupswitch.offset_cons, if_pos (by omega)]) (by decide) ?_
    refine q_iconst (pc := 54) dX6_kindTold_54 ?_
    refine q_ri (pc := 55) dX6_kindTold_55 rfl ?_
    refine ⟨?_, rfl⟩
    unfold kb
    repeat' (first | rw [if_pos (by omega)] | rw [if_neg (by omega)])
  · refine q_lsw (pc := 1) (off := 55) (tgt := 56) dX6_kindTold_1 (by omega) (by decide) (by show Op.lookupswitch.offset [(100, 51), (111, 53), (115, 55), (116, 59), (117, 57)] 61 _ = _; rw [Op.lookupswitch.offset_cons, if_neg (by omega)]; rw [Op.lookupswitch.offset_cons, if_neg (by omega)]; rw [Op.lookupswitch.offset_cons, if_pos (by omega)]) (by decide) ?_
    refine q_iconst (pc := 56) dX6_kindTold_56 ?_
    refine q_ri (pc := 57) dX6_kindTold_57 rfl ?_
    refine ⟨?_, rfl⟩
    unfold kb
    repeat' (first | rw [if_pos (by omega)] | rw [if_neg (by omega)])
  · refine q_lsw (pc := 1) (off := 59) (tgt := 60) dX6_kindTold_1 (by omega) (by decide) (by show Op.lookupswitch.offset [(100, 51), (111, 53), (115, 55), (116, 59), (117, 57)] 61 _ = _; rw [Op.lookupswitch.offset_cons, if_neg (by omega)]; rw [Op.lookupswitch.offset_cons, if_neg (by omega)]; rw [Op.lookupswitch.offset_cons, if_neg (by omega)]; rw [Op.lookupswitch.offset_cons, if_pos (by omega)]) (by decide) ?_
    refine q_iconst (pc := 60) dX6_kindTold_60 ?_
    refine q_ri (pc := 61) dX6_kindTold_61 rfl ?_
    refine ⟨?_, rfl⟩
    unfold kb
    repeat' (first | rw [if_pos (by omega)] | rw [if_neg (by omega)])
  · refine q_lsw (pc := 1) (off := 57) (tgt := 58) dX6_kindTold_1 (by omega) (by decide) (by show Op.lookupswitch.offset [(100, 51), (111, 53), (115, 55), (116, 59), (117, 57)] 61 _ = _; rw [Op.lookupswitch.offset_cons, if_neg (by omega)]; rw [Op.lookupswitch.offset_cons, if_neg (by omega)]; rw [Op.lookupswitch.offset_cons, if_neg (by omega)]; rw [Op.lookupswitch.offset_cons, if_neg (by omega)]; rw [Op.lookupswitch.offset_cons, if_pos (by omega)]) (by decide) ?_
    refine q_iconst (pc := 58) dX6_kindTold_58 ?_
    refine q_ri (pc := 59) dX6_kindTold_59 rfl ?_
    refine ⟨?_, rfl⟩
    unfold kb
    repeat' (first | rw [if_pos (by omega)] | rw [if_neg (by omega)])
  · refine q_lsw (pc := 1) (off := 61) (tgt := 62) dX6_kindTold_1 (by omega) (by decide) (by show Op.lookupswitch.offset [(100, 51), (111, 53), (115, 55), (116, 59), (117, 57)] 61 _ = _; rw [Op.lookupswitch.offset_cons, if_neg (by omega)]; rw [Op.lookupswitch.offset_cons, if_neg (by omega)]; rw [Op.lookupswitch.offset_cons, if_neg (by omega)]; rw [Op.lookupswitch.offset_cons, if_neg (by omega)]; rw [Op.lookupswitch.offset_cons, if_neg (by omega)]; rfl) (by decide) ?_
    refine q_iconst (pc := 62) dX6_kindTold_62 ?_
    refine q_ri (pc := 63) dX6_kindTold_63 rfl ?_
    refine ⟨?_, rfl⟩
    unfold kb
    repeat' (first | rw [if_pos (by omega)] | rw [if_neg (by omega)])
theorem deS_ok (h : (deS tp tl s).1 = 0) : (0 ≤ nvS tp tl (0, s.2 + 1) ∧ nvS tp tl (0, s.2 + 1) ≤ 2) ∧ (1 ≤ nvS tp tl (ntS tp tl 0 2 44 (0, s.2 + 1)) ∧ nvS tp tl (ntS tp tl 0 2 44 (0, s.2 + 1)) ≤ 20) := by
  have h1 := ntS_ok h
  have h2 := ntS_ok h1.1
  exact ⟨h2.2, h1.2⟩
theorem deR_5 : deR tp tl s g 5 = g 5 + 1 := by unfold deR; exact u1_eq
theorem up4 {c a b e v i : Int} : up (up (up (up σ 23 c a) 24 c b) 25 c e) 22 5 v 23 i = (if i = c then a else σ 23 i) ∧ up (up (up (up σ 23 c a) 24 c b) 25 c e) 22 5 v 24 i = (if i = c then b else σ 24 i) ∧ up (up (up (up σ 23 c a) 24 c b) 25 c e) 22 5 v 25 i = (if i = c then e else σ 25 i) := by
  refine ⟨?_, ?_, ?_⟩
  · rw [up_ne (by omega), up_ne (by omega), up_ne (by omega), up_same]
  · rw [up_ne (by omega), up_ne (by omega), up_same, up_ne (by omega)]
  · rw [up_ne (by omega), up_same, up_ne (by omega), up_ne (by omega)]
theorem x_readDeed (hT : TP σ tp tl s) (hK : TK tp tl) (h0 : s.1 = 0) (hI : sIn tl s) (h5 : σ 22 5 = g 5) (hg : 0 ≤ g 5 ∧ g 5 ≤ 7) (hD : DeR σ 22 g) : qE G mX6_readDeed (d + 3) 0 [(0, vr 13), (1, vr 22)] [] σ (ri fun r σ1 => bi ((dS1 tp tl (s, g)).1.1 = 0) = r ∧ Fr σ σ1 [13, 22, 23, 24, 25] ∧ TP σ1 tp tl (dS1 tp tl (s, g)).1 ∧ (∀ i, i ≠ 5 → σ1 22 i = σ 22 i) ∧ ((dS1 tp tl (s, g)).1.1 = 0 → DeR σ1 22 (dS1 tp tl (s, g)).2 ∧ σ1 22 5 = (dS1 tp tl (s, g)).2 5)) := by
  obtain ⟨t1, t2, t3, t4⟩ := id hT
  have hk := hK.1
  have hi2 := hI.2
  have ed : dS1 tp tl (s, g) = if s.2 < tl ∧ kb (tp s.2) ≠ 0 then (if g 5 = 7 then ((3, s.2), g) else (deS tp tl s, deR tp tl s g)) else (((if s.2 < tl ∧ tp s.2 = 119 ∧ g 5 = 0 then 3 else 1), s.2), g) := rfl
  have k0 : kb 0 = 0 := by unfold kb; simp
  by_cases cl : s.2 < tl
  · have tb : σ 14 (σ 13 2) = tp s.2 := by rw [t2]; exact t4 s.2 (by omega) (by omega)
    have hb := hK.2 s.2 (by omega) (by omega)
    have hkb := kb_in (tp s.2)
    refine q_aload_n (pc := 0) dX6_readDeed_0 rfl ?_
    refine q_gI (pc := 1) 2 dX6_readDeed_1 fX6_19 rfl rfl rfl ?_
    refine q_aload_n (pc := 4) dX6_readDeed_4 rfl ?_
    refine q_gI (pc := 5) 1 dX6_readDeed_5 fX6_15 rfl rfl rfl ?_
    refine q_icmpge (pc := 8) (tgt := 23) dX6_readDeed_8 (by decide) (by omega) (by omega) (fun h => absurd h (by omega)) (fun h8 => ?_)
    refine q_aload_n (pc := 11) dX6_readDeed_11 rfl ?_
    refine q_getR (pc := 12) dX6_readDeed_12 fX6_11 rfl rfl ?_
    refine q_aload_n (pc := 15) dX6_readDeed_15 rfl ?_
    refine q_gI (pc := 16) 2 dX6_readDeed_16 fX6_19 rfl rfl rfl ?_
    refine q_iald (pc := 19) dX6_readDeed_19 rfl (by omega) ?_
    refine q_goto (pc := 20) (tgt := 24) dX6_readDeed_20 (by decide) ?_
    rw [tb]
    refine q_istore_n (pc := 24) dX6_readDeed_24 (Nat.le_of_ble_eq_true rfl) ?_
    refine q_iload_n (pc := 25) dX6_readDeed_25 rfl ?_
    refine q_S1i (pc := 26) dX6_readDeed_26 vX6_77 (Nat.le_of_ble_eq_true rfl) (Nat.le_of_ble_eq_true rfl) (x_kindTold hb) (fun r1 σ1 hc1 => ?_)
    obtain ⟨rfl, rfl⟩ := hc1
    refine q_istore_n (pc := 29) dX6_readDeed_29 (Nat.le_of_ble_eq_true rfl) ?_
    refine q_iload_n (pc := 30) dX6_readDeed_30 rfl ?_
    refine q_ifne (pc := 31) (tgt := 57) dX6_readDeed_31 (by decide) (by omega) (fun h31 => ?_) (fun h31 => ?_)
    · refine q_aload_n (pc := 57) dX6_readDeed_57 rfl ?_
      refine q_gI (pc := 58) 5 dX6_readDeed_58 fX6_81 rfl rfl rfl ?_
      refine q_bipush (pc := 61) dX6_readDeed_61 (by decide +kernel) ?_
      refine q_icmplt (pc := 63) (tgt := 72) dX6_readDeed_63 (by decide) (by omega) (by omega) (fun h63 => ?_) (fun h63 => ?_)
      · refine q_aload_n (pc := 72) dX6_readDeed_72 rfl ?_
        refine q_dup (pc := 73) dX6_readDeed_73 rfl ?_
        refine q_gI (pc := 74) 2 dX6_readDeed_74 fX6_19 rfl rfl rfl ?_
        refine q_iconst (pc := 77) dX6_readDeed_77 ?_
        refine q_iadd (pc := 78) dX6_readDeed_78 ?_
        refine q_pI (pc := 79) 2 dX6_readDeed_79 wX6_19 rfl rfl rfl ?_
        have e : dS1 tp tl (s, g) = (deS tp tl s, deR tp tl s g) := by
          rw [ed, if_pos ⟨by omega, by omega⟩, if_neg (by omega)]
        rw [e]
        have hTa : TP (up σ 13 2 (σ 13 2 + 1)) tp tl (0, s.2 + 1) := by
          have q := hT.at (v := σ 13 2 + 1)
          rw [t2, h0] at q
          rw [t2]
          exact q
        have ia : sIn tl (0, s.2 + 1) := ⟨by show (0 : Int) ≤ 0 ∧ (0 : Int) ≤ 3; omega, by show 0 ≤ s.2 + 1 ∧ s.2 + 1 ≤ tl; omega⟩
        have ib : sIn tl (ntS tp tl 0 2 44 (0, s.2 + 1)) := ntS_in ia
        have ic : sIn tl (deS tp tl s) := ntS_in ib
        have hFa : Fr σ (up σ 13 2 (σ 13 2 + 1)) [13, 22, 23, 24, 25] := Fr.up (by simp)
        have fa : ∀ j : Nat, j ≠ 13 → up σ 13 2 (σ 13 2 + 1) j = σ j := fun j hj => up_ne hj
        refine q_aload_n (pc := 82) dX6_readDeed_82 rfl ?_
        refine q_iconst (pc := 83) dX6_readDeed_83 ?_
        refine q_iconst (pc := 84) dX6_readDeed_84 ?_
        refine q_bipush (pc := 85) dX6_readDeed_85 (by decide +kernel) ?_
        refine q_V3i (pc := 87) dX6_readDeed_87 vX6_53 rfl rfl (Nat.le_of_ble_eq_true rfl) (Nat.le_of_ble_eq_true rfl) (x_num hTa hK rfl ia (by omega) (by omega) (by omega)) (fun r2 σ2 hc2 => ?_)
        obtain ⟨rfl, hFp, hTp⟩ := hc2
        refine q_istore (pc := 90) dX6_readDeed_90 (Nat.le_of_ble_eq_true rfl) ?_
        have hf2 : σ2 13 3 = (ntS tp tl 0 2 44 (0, s.2 + 1)).1 := hTp.2.2.1
        have i2a := ib.1
        have fb : ∀ j : Nat, j ≠ 13 → σ2 j = σ j := fun j hj => by rw [hFp j (by simp; omega), fa j hj]
        have hFb : Fr σ σ2 [13, 22, 23, 24, 25] := hFa.tt (hFp.wk (by simp))
        refine q_aload_n (pc := 92) dX6_readDeed_92 rfl ?_
        refine q_gI (pc := 93) 3 dX6_readDeed_93 fX6_22 rfl rfl rfl ?_
        refine q_ifeq (pc := 96) (tgt := 101) dX6_readDeed_96 (by decide) (by omega) (fun h96 => ?_) (fun h96 => ?_)
        · refine q_aload_n (pc := 101) dX6_readDeed_101 rfl ?_
          refine q_iconst (pc := 102) dX6_readDeed_102 ?_
          refine q_bipush (pc := 103) dX6_readDeed_103 (by decide +kernel) ?_
          refine q_bipush (pc := 105) dX6_readDeed_105 (by decide +kernel) ?_
          refine q_V3i (pc := 107) dX6_readDeed_107 vX6_53 rfl rfl (Nat.le_of_ble_eq_true rfl) (Nat.le_of_ble_eq_true rfl) (x_num hTp hK (by omega) ib (by omega) (by omega) (by omega)) (fun r3 σ3 hc3 => ?_)
          obtain ⟨rfl, hFq, hTq⟩ := hc3
          refine q_istore (pc := 110) dX6_readDeed_110 (Nat.le_of_ble_eq_true rfl) ?_
          have hf3 : σ3 13 3 = (deS tp tl s).1 := hTq.2.2.1
          have i3a := ic.1
          have fc : ∀ j : Nat, j ≠ 13 → σ3 j = σ j := fun j hj => by rw [hFq j (by simp; omega), fb j hj]
          have hFc : Fr σ σ3 [13, 22, 23, 24, 25] := hFb.tt (hFq.wk (by simp))
          have h5c : σ3 22 5 = g 5 := by rw [fc 22 (by omega)]; exact h5
          have hFd := (((Fr.up (σ := σ3) (k := 23) (i := g 5) (v := kb (tp s.2)) (S := [23, 24, 25, 22]) (by simp)).tt (Fr.up (k := 24) (i := g 5) (v := nvS tp tl (0, s.2 + 1)) (by simp))).tt (Fr.up (k := 25) (i := g 5) (v := nvS tp tl (ntS tp tl 0 2 44 (0, s.2 + 1))) (by simp))).tt (Fr.up (k := 22) (i := 5) (v := g 5 + 1) (by simp))
          refine q_aload_n (pc := 112) dX6_readDeed_112 rfl ?_
          refine q_gI (pc := 113) 3 dX6_readDeed_113 fX6_22 rfl rfl rfl ?_
          refine q_ifeq (pc := 116) (tgt := 121) dX6_readDeed_116 (by decide) (by omega) (fun h116 => ?_) (fun h116 => ?_)
          · refine q_aload_n (pc := 121) dX6_readDeed_121 rfl ?_
            refine q_iload_n (pc := 122) dX6_readDeed_122 rfl ?_
            refine q_iload (pc := 123) dX6_readDeed_123 rfl ?_
            refine q_iload (pc := 125) dX6_readDeed_125 rfl ?_
            refine q_V3v (pc := 127) dX6_readDeed_127 vX6_88 rfl rfl (Nat.le_of_ble_eq_true rfl) (Nat.le_of_ble_eq_true rfl) (t_X4_addDeed (by omega)) (fun σ4 hc4 => ?_)
            obtain rfl := hc4
            refine q_iconst (pc := 130) dX6_readDeed_130 ?_
            refine q_rz (pc := 131) dX6_readDeed_131 rfl (by first | exact bi_01 _ | omega) ?_
            have n3 : (deS tp tl s).1 = 0 := by omega
            rw [h5c]
            refine ⟨bi_t n3, hFc.tt (hFd.wk (by simp)), hTq.fr hFd (by simp) (by simp), fun i hi => ?_, fun _ => ⟨fun i h0 h1 => ?_, ?_⟩⟩
            · rw [up_same, if_neg hi, up_ne (by omega), up_ne (by omega), up_ne (by omega), fc 22 (by omega)]
            · have h1 : i < deR tp tl s g 5 := h1
              rw [deR_5] at h1
              have r1 : ∀ j, j ≠ 5 → j ≠ 13 + 3 * g 5 → j ≠ 14 + 3 * g 5 → j ≠ 15 + 3 * g 5 → deR tp tl s g j = g j := fun j a b c e => by unfold deR; rw [u1_ne a, u1_ne e, u1_ne c, u1_ne b]
              obtain ⟨w1, w2, w3⟩ := up4 (σ := σ3) (c := g 5) (a := kb (tp s.2)) (b := nvS tp tl (0, s.2 + 1)) (e := nvS tp tl (ntS tp tl 0 2 44 (0, s.2 + 1))) (v := g 5 + 1) (i := i)
              rw [fc 23 (by omega)] at w1
              rw [fc 24 (by omega)] at w2
              rw [fc 25 (by omega)] at w3
              refine ⟨w1.trans ?_, w2.trans ?_, w3.trans ?_⟩
              all_goals show _ = deR tp tl s g _
              · by_cases c : i = g 5
                · rw [if_pos c, c]; unfold deR; rw [u1_ne (by omega), u1_ne (by omega), u1_ne (by omega), u1_eq]
                · rw [if_neg c, r1 _ (by omega) (by omega) (by omega) (by omega)]; exact (hD i h0 (by omega)).1
              · by_cases c : i = g 5
                · rw [if_pos c, c]; unfold deR; rw [u1_ne (by omega), u1_ne (by omega), u1_eq]
                · rw [if_neg c, r1 _ (by omega) (by omega) (by omega) (by omega)]; exact (hD i h0 (by omega)).2.1
              · by_cases c : i = g 5
                · rw [if_pos c, c]; unfold deR; rw [u1_ne (by omega), u1_eq]
                · rw [if_neg c, r1 _ (by omega) (by omega) (by omega) (by omega)]; exact (hD i h0 (by omega)).2.2
            · rw [up_same, if_pos rfl]
              exact (deR_5 (tp := tp) (tl := tl) (s := s) (g := g)).symm
          · refine q_iconst (pc := 119) dX6_readDeed_119 ?_
            refine q_rz (pc := 120) dX6_readDeed_120 rfl (by first | exact bi_01 _ | omega) ?_
            have n3 : (deS tp tl s).1 ≠ 0 := by omega
            exact ⟨bi_f n3, hFc, hTq, fun i _ => by rw [fc 22 (by omega)], fun z => absurd z n3⟩
        · refine q_iconst (pc := 99) dX6_readDeed_99 ?_
          refine q_rz (pc := 100) dX6_readDeed_100 rfl (by first | exact bi_01 _ | omega) ?_
          have n2 : (ntS tp tl 0 2 44 (0, s.2 + 1)).1 ≠ 0 := by omega
          have z3 : deS tp tl s = ntS tp tl 0 2 44 (0, s.2 + 1) := ntS_f n2
          rw [z3]
          exact ⟨bi_f n2, hFb, hTp, fun i _ => by rw [fb 22 (by omega)], fun z => absurd z n2⟩
      · refine q_aload_n (pc := 66) dX6_readDeed_66 rfl ?_
        refine q_iconst (pc := 67) dX6_readDeed_67 ?_
        refine q_V1i (pc := 68) dX6_readDeed_68 vX6_84 rfl rfl (Nat.le_of_ble_eq_true rfl) (Nat.le_of_ble_eq_true rfl) (x_stop) (fun r5 σ5 hc5 => ?_)
        obtain ⟨rfl, rfl⟩ := hc5
        refine q_rz (pc := 71) dX6_readDeed_71 rfl (by first | exact bi_01 _ | omega) ?_
        have e : dS1 tp tl (s, g) = ((3, s.2), g) := by
          rw [ed, if_pos ⟨by omega, by omega⟩, if_pos (by omega)]
        rw [e]
        exact ⟨bi_f (by simp), Fr.up (by simp), hT.fa, fun i _ => by rw [up_ne (by omega)], fun z => absurd z (by simp)⟩
    · refine q_aload_n (pc := 34) dX6_readDeed_34 rfl ?_
      refine q_iload_n (pc := 35) dX6_readDeed_35 rfl ?_
      refine q_bipush (pc := 36) dX6_readDeed_36 (by decide +kernel) ?_
      refine q_icmpne (pc := 38) (tgt := 52) dX6_readDeed_38 (by decide) (by omega) (by omega) (fun h38 => ?_) (fun h38 => ?_)
      · refine q_iconst (pc := 52) dX6_readDeed_52 ?_
        refine q_V1i (pc := 53) dX6_readDeed_53 vX6_84 rfl rfl (Nat.le_of_ble_eq_true rfl) (Nat.le_of_ble_eq_true rfl) (x_stop) (fun r6 σ6 hc6 => ?_)
        obtain ⟨rfl, rfl⟩ := hc6
        refine q_rz (pc := 56) dX6_readDeed_56 rfl (by first | exact bi_01 _ | omega) ?_
        first
        | (have e : dS1 tp tl (s, g) = ((1, s.2), g) := by
             rw [ed]
             first
             | (rw [if_neg (fun z => by have := z.1; omega), if_neg (fun z => by have := z.1; omega)]; done)
             | (rw [if_neg (fun z => by have := z.2; omega), if_neg (fun z => by have := z.2; omega)]; done)
           rw [e]
           exact ⟨bi_f (by simp), Fr.up (by simp), hT.fa, fun i _ => by rw [up_ne (by omega)], fun z => absurd z (by simp)⟩)
        | (have e : dS1 tp tl (s, g) = ((3, s.2), g) := by
             rw [ed, if_neg (fun z => by have := z.2; omega), if_pos ⟨by omega, by omega, by omega⟩]
           rw [e]
           exact ⟨bi_f (by simp), Fr.up (by simp), hT.fa, fun i _ => by rw [up_ne (by omega)], fun z => absurd z (by simp)⟩)
      · refine q_aload_n (pc := 41) dX6_readDeed_41 rfl ?_
        refine q_gI (pc := 42) 5 dX6_readDeed_42 fX6_81 rfl rfl rfl ?_
        refine q_ifne (pc := 45) (tgt := 52) dX6_readDeed_45 (by decide) (by omega) (fun h45 => ?_) (fun h45 => ?_)
        · refine q_iconst (pc := 52) dX6_readDeed_52 ?_
          refine q_V1i (pc := 53) dX6_readDeed_53 vX6_84 rfl rfl (Nat.le_of_ble_eq_true rfl) (Nat.le_of_ble_eq_true rfl) (x_stop) (fun r7 σ7 hc7 => ?_)
          obtain ⟨rfl, rfl⟩ := hc7
          refine q_rz (pc := 56) dX6_readDeed_56 rfl (by first | exact bi_01 _ | omega) ?_
          first
          | (have e : dS1 tp tl (s, g) = ((1, s.2), g) := by
               rw [ed]
               first
               | (rw [if_neg (fun z => by have := z.1; omega), if_neg (fun z => by have := z.1; omega)]; done)
               | (rw [if_neg (fun z => by have := z.2; omega), if_neg (fun z => by have := z.2; omega)]; done)
             rw [e]
             exact ⟨bi_f (by simp), Fr.up (by simp), hT.fa, fun i _ => by rw [up_ne (by omega)], fun z => absurd z (by simp)⟩)
          | (have e : dS1 tp tl (s, g) = ((3, s.2), g) := by
               rw [ed, if_neg (fun z => by have := z.2; omega), if_pos ⟨by omega, by omega, by omega⟩]
             rw [e]
             exact ⟨bi_f (by simp), Fr.up (by simp), hT.fa, fun i _ => by rw [up_ne (by omega)], fun z => absurd z (by simp)⟩)
        · refine q_iconst (pc := 48) dX6_readDeed_48 ?_
          refine q_goto (pc := 49) (tgt := 53) dX6_readDeed_49 (by decide) ?_
          refine q_V1i (pc := 53) dX6_readDeed_53 vX6_84 rfl rfl (Nat.le_of_ble_eq_true rfl) (Nat.le_of_ble_eq_true rfl) (x_stop) (fun r8 σ8 hc8 => ?_)
          obtain ⟨rfl, rfl⟩ := hc8
          refine q_rz (pc := 56) dX6_readDeed_56 rfl (by first | exact bi_01 _ | omega) ?_
          first
          | (have e : dS1 tp tl (s, g) = ((1, s.2), g) := by
               rw [ed]
               first
               | (rw [if_neg (fun z => by have := z.1; omega), if_neg (fun z => by have := z.1; omega)]; done)
               | (rw [if_neg (fun z => by have := z.2; omega), if_neg (fun z => by have := z.2; omega)]; done)
             rw [e]
             exact ⟨bi_f (by simp), Fr.up (by simp), hT.fa, fun i _ => by rw [up_ne (by omega)], fun z => absurd z (by simp)⟩)
          | (have e : dS1 tp tl (s, g) = ((3, s.2), g) := by
               rw [ed, if_neg (fun z => by have := z.2; omega), if_pos ⟨by omega, by omega, by omega⟩]
             rw [e]
             exact ⟨bi_f (by simp), Fr.up (by simp), hT.fa, fun i _ => by rw [up_ne (by omega)], fun z => absurd z (by simp)⟩)
  · have hk0 := k0
    refine q_aload_n (pc := 0) dX6_readDeed_0 rfl ?_
    refine q_gI (pc := 1) 2 dX6_readDeed_1 fX6_19 rfl rfl rfl ?_
    refine q_aload_n (pc := 4) dX6_readDeed_4 rfl ?_
    refine q_gI (pc := 5) 1 dX6_readDeed_5 fX6_15 rfl rfl rfl ?_
    refine q_icmpge (pc := 8) (tgt := 23) dX6_readDeed_8 (by decide) (by omega) (by omega) (fun h8 => ?_) (fun h => absurd h (by omega))
    refine q_iconst (pc := 23) dX6_readDeed_23 ?_
    refine q_istore_n (pc := 24) dX6_readDeed_24 (Nat.le_of_ble_eq_true rfl) ?_
    refine q_iload_n (pc := 25) dX6_readDeed_25 rfl ?_
    refine q_S1i (pc := 26) dX6_readDeed_26 vX6_77 (Nat.le_of_ble_eq_true rfl) (Nat.le_of_ble_eq_true rfl) (x_kindTold (c := 0) (by omega)) (fun r1 σ1 hc1 => ?_)
    obtain ⟨rfl, rfl⟩ := hc1
    refine q_istore_n (pc := 29) dX6_readDeed_29 (Nat.le_of_ble_eq_true rfl) ?_
    refine q_iload_n (pc := 30) dX6_readDeed_30 rfl ?_
    refine q_ifne (pc := 31) (tgt := 57) dX6_readDeed_31 (by decide) (by omega) (fun h => absurd h (by omega)) (fun h31 => ?_)
    refine q_aload_n (pc := 34) dX6_readDeed_34 rfl ?_
    refine q_iload_n (pc := 35) dX6_readDeed_35 rfl ?_
    refine q_bipush (pc := 36) dX6_readDeed_36 (by decide +kernel) ?_
    refine q_icmpne (pc := 38) (tgt := 52) dX6_readDeed_38 (by decide) (by omega) (by omega) (fun h38 => ?_) (fun h => absurd h (by omega))
    refine q_iconst (pc := 52) dX6_readDeed_52 ?_
    refine q_V1i (pc := 53) dX6_readDeed_53 vX6_84 rfl rfl (Nat.le_of_ble_eq_true rfl) (Nat.le_of_ble_eq_true rfl) (x_stop) (fun r2 σ2 hc2 => ?_)
    obtain ⟨rfl, rfl⟩ := hc2
    refine q_rz (pc := 56) dX6_readDeed_56 rfl (by first | exact bi_01 _ | omega) ?_
    first
    | (have e : dS1 tp tl (s, g) = ((1, s.2), g) := by
         rw [ed]
         first
         | (rw [if_neg (fun z => by have := z.1; omega), if_neg (fun z => by have := z.1; omega)]; done)
         | (rw [if_neg (fun z => by have := z.2; omega), if_neg (fun z => by have := z.2; omega)]; done)
       rw [e]
       exact ⟨bi_f (by simp), Fr.up (by simp), hT.fa, fun i _ => by rw [up_ne (by omega)], fun z => absurd z (by simp)⟩)
    | (have e : dS1 tp tl (s, g) = ((3, s.2), g) := by
         rw [ed, if_neg (fun z => by have := z.2; omega), if_pos ⟨by omega, by omega, by omega⟩]
       rw [e]
       exact ⟨bi_f (by simp), Fr.up (by simp), hT.fa, fun i _ => by rw [up_ne (by omega)], fun z => absurd z (by simp)⟩)
theorem x_deeds_l (hK : TK tp tl) : ∀ (m t : Nat) (s : Int × Int) (g : Int → Int) (σ : qM), m + t = 7 → TP σ tp tl s → s.1 = 0 → sIn tl s → σ 22 5 = g 5 → g 5 = t → DeR σ 22 g → qE G mX6_readDeeds (d + 4) 2 [(2, vi t), (0, vr 13), (1, vr 22)] [] σ (ri fun r σ1 => bi ((dsL tp tl (m + 2) (s, g)).1.1 = 0) = r ∧ Fr σ σ1 [13, 22, 23, 24, 25] ∧ TP σ1 tp tl (dsL tp tl (m + 2) (s, g)).1 ∧ (∀ i, i ≠ 5 → σ1 22 i = σ 22 i) ∧ ((dsL tp tl (m + 2) (s, g)).1.1 = 0 → DeR σ1 22 (dsL tp tl (m + 2) (s, g)).2 ∧ σ1 22 5 = (dsL tp tl (m + 2) (s, g)).2 5)) := by
  intro m
  have hk := hK.1
  induction m with
  | zero =>
    intro t s g σ hm hT h0 hI hg5 hg hD
    obtain ⟨t1, t2, t3, t4⟩ := id hT
    have hI2 := hI.2
    have n1 : (dS1 tp tl (s, g)).1.1 ≠ 0 := by
      unfold dS1
      split
      · rw [if_pos (show g 5 = 7 by omega)]; simp
      · show (if _ then (3 : Int) else 1) ≠ 0
        split <;> omega
    refine q_iload_n (pc := 2) dX6_readDeeds_2 rfl ?_
    refine q_bipush (pc := 3) dX6_readDeeds_3 (by decide +kernel) ?_
    refine q_icmpgt (pc := 5) (tgt := 41) dX6_readDeeds_5 (by decide) (by omega) (by omega) (fun h => absurd h (by omega)) (fun h5 => ?_)
    refine q_iload_n (pc := 8) dX6_readDeeds_8 rfl ?_
    refine q_ifle (pc := 9) (tgt := 25) dX6_readDeeds_9 (by decide) (by omega) (fun h => absurd h (by omega)) (fun h9 => ?_)
    refine q_aload_n (pc := 12) dX6_readDeeds_12 rfl ?_
    refine q_gI (pc := 13) 2 dX6_readDeeds_13 fX6_19 rfl rfl rfl ?_
    refine q_aload_n (pc := 16) dX6_readDeeds_16 rfl ?_
    refine q_gI (pc := 17) 1 dX6_readDeeds_17 fX6_15 rfl rfl rfl ?_
    refine q_icmpne (pc := 20) (tgt := 25) dX6_readDeeds_20 (by decide) (by omega) (by omega) (fun h20 => ?_) (fun h20 => ?_)
    · refine q_aload_n (pc := 25) dX6_readDeeds_25 rfl ?_
      refine q_aload_n (pc := 26) dX6_readDeeds_26 rfl ?_
      refine q_V1i (pc := 27) dX6_readDeeds_27 vX6_74 rfl rfl (Nat.le_of_ble_eq_true rfl) (Nat.le_of_ble_eq_true rfl) (x_readDeed hT hK h0 hI hg5 (by omega) hD) (fun r1 σ1 hc1 => ?_)
      obtain ⟨rfl, hF1, hT1, h22, hd⟩ := hc1
      refine q_ifneb (pc := 30) (tgt := 35) dX6_readDeeds_30 (by decide) (fun h => absurd h (by first | omega | simp_all)) (fun h30 => ?_)
      refine q_iconst (pc := 33) dX6_readDeeds_33 ?_
      refine q_rz (pc := 34) dX6_readDeeds_34 rfl (by first | exact bi_01 _ | omega) ?_
      rw [dsL_s h0 (fun z => by have z1 : s.2 = tl := z.1; omega) 1, dsL_f n1]
      exact ⟨bi_f n1, hF1, hT1, h22, fun z => absurd z n1⟩
    · refine q_iconst (pc := 23) dX6_readDeeds_23 ?_
      refine q_rz (pc := 24) dX6_readDeeds_24 rfl (by first | exact bi_01 _ | omega) ?_
      rw [dsL_e h0 ⟨by show s.2 = tl; omega, by show 0 < g 5; omega⟩ 1]
      exact ⟨bi_t h0, Fr.rf, hT, fun _ _ => rfl, fun _ => ⟨hD, hg5⟩⟩
  | succ m ih =>
    intro t s g σ hm hT h0 hI hg5 hg hD
    obtain ⟨t1, t2, t3, t4⟩ := id hT
    have hI2 := hI.2
    refine q_iload_n (pc := 2) dX6_readDeeds_2 rfl ?_
    refine q_bipush (pc := 3) dX6_readDeeds_3 (by decide +kernel) ?_
    refine q_icmpgt (pc := 5) (tgt := 41) dX6_readDeeds_5 (by decide) (by omega) (by omega) (fun h => absurd h (by omega)) (fun h5 => ?_)
    refine q_iload_n (pc := 8) dX6_readDeeds_8 rfl ?_
    refine q_ifle (pc := 9) (tgt := 25) dX6_readDeeds_9 (by decide) (by omega) (fun h9 => ?_) (fun h9 => ?_)
    · refine q_aload_n (pc := 25) dX6_readDeeds_25 rfl ?_
      refine q_aload_n (pc := 26) dX6_readDeeds_26 rfl ?_
      refine q_V1i (pc := 27) dX6_readDeeds_27 vX6_74 rfl rfl (Nat.le_of_ble_eq_true rfl) (Nat.le_of_ble_eq_true rfl) (x_readDeed hT hK h0 hI hg5 (by omega) hD) (fun r1 σ1 hc1 => ?_)
      obtain ⟨rfl, hF1, hT1, h22, hd⟩ := hc1
      refine q_ifneb (pc := 30) (tgt := 35) dX6_readDeeds_30 (by decide) (fun h30 => ?_) (fun h30 => ?_)
      · refine q_iinc (pc := 35) dX6_readDeeds_35 rfl (Nat.le_of_ble_eq_true rfl) ?_
        refine q_goto (pc := 38) (tgt := 2) dX6_readDeeds_38 (by decide) ?_
        rw [dsL_s h0 (fun z => by have z1 : s.2 = tl := z.1; have z2 : 0 < g 5 := z.2; omega) (m + 2)]
        have hin : sIn tl (dS1 tp tl (s, g)).1 ∧ (dS1 tp tl (s, g)).2 5 = g 5 + 1 := by
          have z := h30
          unfold dS1 at z ⊢
          by_cases c : s.2 < tl ∧ kb (tp s.2) ≠ 0
          · rw [if_pos c] at z ⊢
            by_cases c2 : g 5 = 7
            · rw [if_pos c2] at z; exact absurd z (by simp)
            · rw [if_neg c2]
              exact ⟨ntS_in (ntS_in ⟨by show (0 : Int) ≤ 0 ∧ (0 : Int) ≤ 3; omega, by show 0 ≤ s.2 + 1 ∧ s.2 + 1 ≤ tl; have := c.1; omega⟩), deR_5 (tp := tp) (tl := tl) (s := s) (g := g)⟩
          · rw [if_neg c] at z
            have z : (if s.2 < tl ∧ tp s.2 = 119 ∧ g 5 = 0 then (3 : Int) else 1) = 0 := z
            split at z <;> omega
        have hdd := hd h30
        have q := ih (t + 1) (dS1 tp tl (s, g)).1 (dS1 tp tl (s, g)).2 σ1 (by omega) hT1 h30 hin.1 hdd.2 (by rw [hin.2]; push_cast; omega) hdd.1
        refine q_locs _ [0, 1, 2] rfl (q_mono (fun v σ' h => ?_) q)
        obtain ⟨x, y1, y2, y3, y4, y5, y6⟩ := h
        exact ⟨x, y1, y2, hF1.tt y3, y4, fun i hi => by rw [y5 i hi, h22 i hi], y6⟩
      · refine q_iconst (pc := 33) dX6_readDeeds_33 ?_
        refine q_rz (pc := 34) dX6_readDeeds_34 rfl (by first | exact bi_01 _ | omega) ?_
        rw [dsL_s h0 (fun z => by have z1 : s.2 = tl := z.1; have z2 : 0 < g 5 := z.2; omega) (m + 2), dsL_f h30]
        exact ⟨bi_f h30, hF1, hT1, h22, fun z => absurd z h30⟩
    · refine q_aload_n (pc := 12) dX6_readDeeds_12 rfl ?_
      refine q_gI (pc := 13) 2 dX6_readDeeds_13 fX6_19 rfl rfl rfl ?_
      refine q_aload_n (pc := 16) dX6_readDeeds_16 rfl ?_
      refine q_gI (pc := 17) 1 dX6_readDeeds_17 fX6_15 rfl rfl rfl ?_
      refine q_icmpne (pc := 20) (tgt := 25) dX6_readDeeds_20 (by decide) (by omega) (by omega) (fun h20 => ?_) (fun h20 => ?_)
      · refine q_aload_n (pc := 25) dX6_readDeeds_25 rfl ?_
        refine q_aload_n (pc := 26) dX6_readDeeds_26 rfl ?_
        refine q_V1i (pc := 27) dX6_readDeeds_27 vX6_74 rfl rfl (Nat.le_of_ble_eq_true rfl) (Nat.le_of_ble_eq_true rfl) (x_readDeed hT hK h0 hI hg5 (by omega) hD) (fun r2 σ2 hc2 => ?_)
        obtain ⟨rfl, hF2, hT2, h22, hd⟩ := hc2
        refine q_ifneb (pc := 30) (tgt := 35) dX6_readDeeds_30 (by decide) (fun h30 => ?_) (fun h30 => ?_)
        · refine q_iinc (pc := 35) dX6_readDeeds_35 rfl (Nat.le_of_ble_eq_true rfl) ?_
          refine q_goto (pc := 38) (tgt := 2) dX6_readDeeds_38 (by decide) ?_
          rw [dsL_s h0 (fun z => by have z1 : s.2 = tl := z.1; have z2 : 0 < g 5 := z.2; omega) (m + 2)]
          have hin : sIn tl (dS1 tp tl (s, g)).1 ∧ (dS1 tp tl (s, g)).2 5 = g 5 + 1 := by
            have z := h30
            unfold dS1 at z ⊢
            by_cases c : s.2 < tl ∧ kb (tp s.2) ≠ 0
            · rw [if_pos c] at z ⊢
              by_cases c2 : g 5 = 7
              · rw [if_pos c2] at z; exact absurd z (by simp)
              · rw [if_neg c2]
                exact ⟨ntS_in (ntS_in ⟨by show (0 : Int) ≤ 0 ∧ (0 : Int) ≤ 3; omega, by show 0 ≤ s.2 + 1 ∧ s.2 + 1 ≤ tl; have := c.1; omega⟩), deR_5 (tp := tp) (tl := tl) (s := s) (g := g)⟩
            · rw [if_neg c] at z
              have z : (if s.2 < tl ∧ tp s.2 = 119 ∧ g 5 = 0 then (3 : Int) else 1) = 0 := z
              split at z <;> omega
          have hdd := hd h30
          have q := ih (t + 1) (dS1 tp tl (s, g)).1 (dS1 tp tl (s, g)).2 σ2 (by omega) hT2 h30 hin.1 hdd.2 (by rw [hin.2]; push_cast; omega) hdd.1
          refine q_locs _ [0, 1, 2] rfl (q_mono (fun v σ' h => ?_) q)
          obtain ⟨x, y1, y2, y3, y4, y5, y6⟩ := h
          exact ⟨x, y1, y2, hF2.tt y3, y4, fun i hi => by rw [y5 i hi, h22 i hi], y6⟩
        · refine q_iconst (pc := 33) dX6_readDeeds_33 ?_
          refine q_rz (pc := 34) dX6_readDeeds_34 rfl (by first | exact bi_01 _ | omega) ?_
          rw [dsL_s h0 (fun z => by have z1 : s.2 = tl := z.1; have z2 : 0 < g 5 := z.2; omega) (m + 2), dsL_f h30]
          exact ⟨bi_f h30, hF2, hT2, h22, fun z => absurd z h30⟩
      · refine q_iconst (pc := 23) dX6_readDeeds_23 ?_
        refine q_rz (pc := 24) dX6_readDeeds_24 rfl (by first | exact bi_01 _ | omega) ?_
        rw [dsL_e h0 ⟨by show s.2 = tl; omega, by show 0 < g 5; omega⟩ (m + 2)]
        exact ⟨bi_t h0, Fr.rf, hT, fun _ _ => rfl, fun _ => ⟨hD, hg5⟩⟩
end T6
