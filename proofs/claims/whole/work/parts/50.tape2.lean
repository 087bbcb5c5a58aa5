/-! ===== the class: a text into a draft ===== -/
section T6
variable {G : qGl} {d : Nat} {σ : qM} {tp : Int → Int} {tl : Int} {s : Int × Int} {g : Int → Int}
theorem s00 (hK : TK tp tl) : sIn tl (0, 0) := ⟨by show (0 : Int) ≤ 0 ∧ (0 : Int) ≤ 3; omega, by show (0 : Int) ≤ 0 ∧ 0 ≤ tl; have := hK.1; omega⟩
theorem x_readLaw (hT : TP σ tp tl (0, 0)) (hK : TK tp tl) : qE G mX6_readLaw (d + 3) 0 [(0, vr 13), (1, vr 22)] [] σ (ri fun r σ1 => bi ((laS tp tl).1 = 0) = r ∧ Fr σ σ1 [13, 22] ∧ TP σ1 tp tl (laS tp tl) ∧ (∀ i, i ≠ 1 → i ≠ 2 → i ≠ 3 → σ1 22 i = σ 22 i) ∧ ((laS tp tl).1 = 0 → σ1 22 1 = laR tp tl g00 1 ∧ σ1 22 2 = laR tp tl g00 2 ∧ σ1 22 3 = laR tp tl g00 3)) := by
  have i1 : sIn tl (tkS tp tl 110 (0, 0)) := tkS_in (s00 hK)
  have i2 : sIn tl (ntS tp tl 0 9 44 (tkS tp tl 110 (0, 0))) := ntS_in i1
  have i3 : sIn tl (ntS tp tl 0 9 44 (ntS tp tl 0 9 44 (tkS tp tl 110 (0, 0)))) := ntS_in i2
  have i4 : sIn tl (laS tp tl) := ntS_in i3
  have e1 : laR tp tl g00 1 = nvS tp tl (tkS tp tl 110 (0, 0)) := by unfold laR; rw [u1_ne (by omega), u1_ne (by omega), u1_eq]
  have e2 : laR tp tl g00 2 = nvS tp tl (ntS tp tl 0 9 44 (tkS tp tl 110 (0, 0))) := by unfold laR; rw [u1_ne (by omega), u1_eq]
  have e3 : laR tp tl g00 3 = nvS tp tl (ntS tp tl 0 9 44 (ntS tp tl 0 9 44 (tkS tp tl 110 (0, 0)))) := by unfold laR; rw [u1_eq]
  rw [e1, e2, e3]
  generalize hs1 : tkS tp tl 110 (0, 0) = s1 at *
  have l4 : laS tp tl = ntS tp tl 1 9 59 (ntS tp tl 0 9 44 (ntS tp tl 0 9 44 s1)) := by unfold laS; rw [hs1]
  rw [l4] at i4 ⊢
  clear l4 e1 e2 e3
  generalize hs2 : ntS tp tl 0 9 44 s1 = s2 at *
  generalize hs3 : ntS tp tl 0 9 44 s2 = s3 at *
  generalize hs4 : ntS tp tl 1 9 59 s3 = s4 at *
  refine q_aload_n (pc := 0) dX6_readLaw_0 rfl ?_
  refine q_bipush (pc := 1) dX6_readLaw_1 (by decide +kernel) ?_
  refine q_V1i (pc := 3) dX6_readLaw_3 vX6_49 rfl rfl (Nat.le_of_ble_eq_true rfl) (Nat.le_of_ble_eq_true rfl) (x_take hT hK rfl (s00 hK) (by omega)) (fun r1 σ1 hc1 => ?_)
  obtain ⟨rfl, hF1, hT1⟩ := hc1
  refine q_ifneb (pc := 6) (tgt := 11) dX6_readLaw_6 (by decide) (fun h6 => ?_) (fun h6 => ?_)
  · rw [hs1] at hT1 h6
    refine q_aload_n (pc := 11) dX6_readLaw_11 rfl ?_
    refine q_aload_n (pc := 12) dX6_readLaw_12 rfl ?_
    refine q_iconst (pc := 13) dX6_readLaw_13 ?_
    refine q_bipush (pc := 14) dX6_readLaw_14 (by decide +kernel) ?_
    refine q_bipush (pc := 16) dX6_readLaw_16 (by decide +kernel) ?_
    refine q_V3i (pc := 18) dX6_readLaw_18 vX6_53 rfl rfl (Nat.le_of_ble_eq_true rfl) (Nat.le_of_ble_eq_true rfl) (x_num (s := s1) hT1 hK h6 i1 (by omega) (by omega) (by omega)) (fun r2 σ2 hc2 => ?_)
    obtain ⟨rfl, hF2, hT2⟩ := hc2
    rw [hs2] at hT2
    refine q_pI (pc := 21) 1 dX6_readLaw_21 wX6_57 rfl rfl rfl ?_
    have hb2 := (hT2.fr (S := [22]) (Fr.up (k := 22) (i := 1) (v := nvS tp tl s1) (by simp)) (by simp) (by simp))
    have hf2 := hb2.2.2.1
    have i2a := i2.1
    refine q_aload_n (pc := 24) dX6_readLaw_24 rfl ?_
    refine q_gI (pc := 25) 3 dX6_readLaw_25 fX6_22 rfl rfl rfl ?_
    refine q_ifeq (pc := 28) (tgt := 33) dX6_readLaw_28 (by decide) (by omega) (fun h28 => ?_) (fun h28 => ?_)
    · refine q_aload_n (pc := 33) dX6_readLaw_33 rfl ?_
      refine q_aload_n (pc := 34) dX6_readLaw_34 rfl ?_
      refine q_iconst (pc := 35) dX6_readLaw_35 ?_
      refine q_bipush (pc := 36) dX6_readLaw_36 (by decide +kernel) ?_
      refine q_bipush (pc := 38) dX6_readLaw_38 (by decide +kernel) ?_
      refine q_V3i (pc := 40) dX6_readLaw_40 vX6_53 rfl rfl (Nat.le_of_ble_eq_true rfl) (Nat.le_of_ble_eq_true rfl) (x_num (s := s2) hb2 hK (by omega) i2 (by omega) (by omega) (by omega)) (fun r3 σ3 hc3 => ?_)
      obtain ⟨rfl, hF3, hT3⟩ := hc3
      rw [hs3] at hT3
      refine q_pI (pc := 43) 2 dX6_readLaw_43 wX6_60 rfl rfl rfl ?_
      have hb3 := (hT3.fr (S := [22]) (Fr.up (k := 22) (i := 2) (v := nvS tp tl s2) (by simp)) (by simp) (by simp))
      have hf3 := hb3.2.2.1
      have i3a := i3.1
      refine q_aload_n (pc := 46) dX6_readLaw_46 rfl ?_
      refine q_gI (pc := 47) 3 dX6_readLaw_47 fX6_22 rfl rfl rfl ?_
      refine q_ifeq (pc := 50) (tgt := 55) dX6_readLaw_50 (by decide) (by omega) (fun h50 => ?_) (fun h50 => ?_)
      · refine q_aload_n (pc := 55) dX6_readLaw_55 rfl ?_
        refine q_aload_n (pc := 56) dX6_readLaw_56 rfl ?_
        refine q_iconst (pc := 57) dX6_readLaw_57 ?_
        refine q_bipush (pc := 58) dX6_readLaw_58 (by decide +kernel) ?_
        refine q_bipush (pc := 60) dX6_readLaw_60 (by decide +kernel) ?_
        refine q_V3i (pc := 62) dX6_readLaw_62 vX6_53 rfl rfl (Nat.le_of_ble_eq_true rfl) (Nat.le_of_ble_eq_true rfl) (x_num (s := s3) hb3 hK (by omega) i3 (by omega) (by omega) (by omega)) (fun r4 σ4 hc4 => ?_)
        obtain ⟨rfl, hF4, hT4⟩ := hc4
        rw [hs4] at hT4
        refine q_pI (pc := 65) 3 dX6_readLaw_65 wX6_63 rfl rfl rfl ?_
        have hb4 := (hT4.fr (S := [22]) (Fr.up (k := 22) (i := 3) (v := nvS tp tl s3) (by simp)) (by simp) (by simp))
        have hf4 := hb4.2.2.1
        have i4a := i4.1
        refine q_aload_n (pc := 68) dX6_readLaw_68 rfl ?_
        refine q_gI (pc := 69) 3 dX6_readLaw_69 fX6_22 rfl rfl rfl ?_
        refine q_ifne (pc := 72) (tgt := 79) dX6_readLaw_72 (by decide) (by omega) (fun h72 => ?_) (fun h72 => ?_)
        · refine q_iconst (pc := 79) dX6_readLaw_79 ?_
          refine q_rz (pc := 80) dX6_readLaw_80 rfl (by first | exact bi_01 _ | omega) ?_
          refine ⟨by first | exact bi_t (by omega) | exact bi_f (by omega), ((((((hF1.tt hF2).wk (by simp)).tt (Fr.up (by simp))).tt (hF3.wk (by simp))).tt (Fr.up (by simp))).tt (hF4.wk (by simp))).tt (Fr.up (by simp)), hb4, fun i y y2 y3 => by rw [up_same, if_neg y3, hF4 22 (by simp), up_same, if_neg y2, hF3 22 (by simp), up_same, if_neg y, hF2 22 (by simp), hF1 22 (by simp)], fun _ => ⟨?_, ?_, ?_⟩⟩
          · rw [up_same, if_neg (by omega), hF4 22 (by simp), up_same, if_neg (by omega), hF3 22 (by simp), up_same, if_pos rfl]
          · rw [up_same, if_neg (by omega), hF4 22 (by simp), up_same, if_pos rfl]
          · rw [up_same, if_pos rfl]
        · refine q_iconst (pc := 75) dX6_readLaw_75 ?_
          refine q_goto (pc := 76) (tgt := 80) dX6_readLaw_76 (by decide) ?_
          refine q_rz (pc := 80) dX6_readLaw_80 rfl (by first | exact bi_01 _ | omega) ?_
          refine ⟨by first | exact bi_t (by omega) | exact bi_f (by omega), ((((((hF1.tt hF2).wk (by simp)).tt (Fr.up (by simp))).tt (hF3.wk (by simp))).tt (Fr.up (by simp))).tt (hF4.wk (by simp))).tt (Fr.up (by simp)), hb4, fun i y y2 y3 => by rw [up_same, if_neg y3, hF4 22 (by simp), up_same, if_neg y2, hF3 22 (by simp), up_same, if_neg y, hF2 22 (by simp), hF1 22 (by simp)], fun _ => ⟨?_, ?_, ?_⟩⟩
          · rw [up_same, if_neg (by omega), hF4 22 (by simp), up_same, if_neg (by omega), hF3 22 (by simp), up_same, if_pos rfl]
          · rw [up_same, if_neg (by omega), hF4 22 (by simp), up_same, if_pos rfl]
          · rw [up_same, if_pos rfl]
      · refine q_iconst (pc := 53) dX6_readLaw_53 ?_
        refine q_rz (pc := 54) dX6_readLaw_54 rfl (by first | exact bi_01 _ | omega) ?_
        have n3 : s3.1 ≠ 0 := by omega
        have z4 : s4 = s3 := by rw [← hs4]; exact ntS_f n3
        refine ⟨bi_f (by rw [z4]; exact n3), ((((hF1.tt hF2).wk (by simp)).tt (Fr.up (by simp))).tt (hF3.wk (by simp))).tt (Fr.up (by simp)), by rw [z4]; exact hb3, fun i y y2 _ => by rw [up_same, if_neg y2, hF3 22 (by simp), up_same, if_neg y, hF2 22 (by simp), hF1 22 (by simp)], fun z => absurd z (by rw [z4]; exact n3)⟩
    · refine q_iconst (pc := 31) dX6_readLaw_31 ?_
      refine q_rz (pc := 32) dX6_readLaw_32 rfl (by first | exact bi_01 _ | omega) ?_
      have n2 : s2.1 ≠ 0 := by omega
      have z3 : s3 = s2 := by rw [← hs3]; exact ntS_f n2
      have z4 : s4 = s2 := by rw [← hs4, z3]; exact ntS_f n2
      refine ⟨bi_f (by rw [z4]; exact n2), ((hF1.tt hF2).wk (by simp)).tt (Fr.up (by simp)), by rw [z4]; exact hb2, fun i y _ _ => by rw [up_same, if_neg y, hF2 22 (by simp), hF1 22 (by simp)], fun z => absurd z (by rw [z4]; exact n2)⟩
  · rw [hs1] at hT1 h6
    refine q_iconst (pc := 9) dX6_readLaw_9 ?_
    refine q_rz (pc := 10) dX6_readLaw_10 rfl (by first | exact bi_01 _ | omega) ?_
    have z2 : s2 = s1 := by rw [← hs2]; exact ntS_f h6
    have z3 : s3 = s1 := by rw [← hs3, z2]; exact ntS_f h6
    have z4 : s4 = s1 := by rw [← hs4, z3]; exact ntS_f h6
    refine ⟨bi_f (by rw [z4]; exact h6), hF1.wk (by simp), by rw [z4]; exact hT1, fun i _ _ _ => by rw [hF1 22 (by simp)], fun z => absurd z (by rw [z4]; exact h6)⟩
def fh (tp : Int → Int) (tl : Int) (s : Int × Int) : Int := nvS tp tl (tkS tp tl 119 s)
def fs (tp : Int → Int) (tl : Int) (s : Int × Int) : Int := nvS tp tl (ntS tp tl 0 60 44 (tkS tp tl 119 s))
theorem ftS_f (h : s.1 ≠ 0) : ftS tp tl s = s := by
  unfold ftS
  rw [tkS_f h, ntS_f h, ntS_f h]
theorem ftS_in (h : sIn tl s) : sIn tl (ftS tp tl s) := ntS_in (ntS_in (tkS_in h))
theorem x_foot1 {i : Int} {P : Int → qM → Prop} (hi : 0 ≤ i ∧ i ≤ 2) (hT : TP σ tp tl s) (hK : TK tp tl) (h0 : s.1 = 0) (hI : sIn tl s)
    (kk : ∀ σ1, Fr σ σ1 [13, 27, 28] → TP σ1 tp tl (ftS tp tl s) → (ftS tp tl s).1 = 0 → (∀ j, σ1 27 j = if j = i then fh tp tl s else σ 27 j) → (∀ j, σ1 28 j = if j = i then fs tp tl s else σ 28 j) → qE G mX6_readAllFeet (d + 3) 2 [(2, vi (i + 1)), (0, vr 13), (1, vr 26)] [] σ1 (ri P))
    (kf : ∀ σ1, Fr σ σ1 [13, 27, 28] → TP σ1 tp tl (ftS tp tl s) → (ftS tp tl s).1 ≠ 0 → P 0 σ1) :
    qE G mX6_readAllFeet (d + 3) 2 [(2, vi i), (0, vr 13), (1, vr 26)] [] σ (ri P) := by
  have i1 : sIn tl (tkS tp tl 119 s) := tkS_in hI
  have i2 : sIn tl (ntS tp tl 0 60 44 (tkS tp tl 119 s)) := ntS_in i1
  have i3 : sIn tl (ftS tp tl s) := ntS_in i2
  unfold fh fs at kk
  generalize hs1 : tkS tp tl 119 s = s1 at *
  have l3 : ftS tp tl s = ntS tp tl 0 9 59 (ntS tp tl 0 60 44 s1) := by unfold ftS; rw [hs1]
  rw [l3] at i3 kk kf
  clear l3
  generalize hs2 : ntS tp tl 0 60 44 s1 = s2 at *
  generalize hs3 : ntS tp tl 0 9 59 s2 = s3 at *
  refine q_iload_n (pc := 2) dX6_readAllFeet_2 rfl ?_
  refine q_iconst (pc := 3) dX6_readAllFeet_3 ?_
  refine q_icmpge (pc := 4) (tgt := 72) dX6_readAllFeet_4 (by decide) (by omega) (by omega) (fun h => absurd h (by omega)) (fun h4 => ?_)
  refine q_aload_n (pc := 7) dX6_readAllFeet_7 rfl ?_
  refine q_bipush (pc := 8) dX6_readAllFeet_8 (by decide +kernel) ?_
  refine q_V1i (pc := 10) dX6_readAllFeet_10 vX6_49 rfl rfl (Nat.le_of_ble_eq_true rfl) (Nat.le_of_ble_eq_true rfl) (x_take hT hK h0 hI (by omega)) (fun r1 σ1 hc1 => ?_)
  obtain ⟨rfl, hF1, hT1⟩ := hc1
  refine q_ifneb (pc := 13) (tgt := 18) dX6_readAllFeet_13 (by decide) (fun h13 => ?_) (fun h13 => ?_)
  · rw [hs1] at hT1 h13
    refine q_aload_n (pc := 18) dX6_readAllFeet_18 rfl ?_
    refine q_getR (pc := 19) dX6_readAllFeet_19 fX6_66 rfl rfl ?_
    refine q_iload_n (pc := 22) dX6_readAllFeet_22 rfl ?_
    refine q_aload_n (pc := 23) dX6_readAllFeet_23 rfl ?_
    refine q_iconst (pc := 24) dX6_readAllFeet_24 ?_
    refine q_bipush (pc := 25) dX6_readAllFeet_25 (by decide +kernel) ?_
    refine q_bipush (pc := 27) dX6_readAllFeet_27 (by decide +kernel) ?_
    refine q_V3i (pc := 29) dX6_readAllFeet_29 vX6_53 rfl rfl (Nat.le_of_ble_eq_true rfl) (Nat.le_of_ble_eq_true rfl) (x_num (s := s1) hT1 hK h13 i1 (by omega) (by omega) (by omega)) (fun r2 σ2 hc2 => ?_)
    obtain ⟨rfl, hF2, hT2⟩ := hc2
    rw [hs2] at hT2
    refine q_iast (pc := 32) dX6_readAllFeet_32 rfl (by omega) ?_
    have hF2' : Fr σ (up σ2 27 i (nvS tp tl s1)) [13, 27, 28] := ((hF1.tt hF2).wk (by simp)).tt (Fr.up (by simp))
    have hb2 := (hT2.fr (S := [27]) (Fr.up (k := 27) (i := i) (v := nvS tp tl s1) (by simp)) (by simp) (by simp))
    have hf2 := hb2.2.2.1
    have i2a := i2.1
    refine q_aload_n (pc := 33) dX6_readAllFeet_33 rfl ?_
    refine q_gI (pc := 34) 3 dX6_readAllFeet_34 fX6_22 rfl rfl rfl ?_
    refine q_ifeq (pc := 37) (tgt := 42) dX6_readAllFeet_37 (by decide) (by omega) (fun h37 => ?_) (fun h37 => ?_)
    · refine q_aload_n (pc := 42) dX6_readAllFeet_42 rfl ?_
      refine q_getR (pc := 43) dX6_readAllFeet_43 fX6_71 rfl rfl ?_
      refine q_iload_n (pc := 46) dX6_readAllFeet_46 rfl ?_
      refine q_aload_n (pc := 47) dX6_readAllFeet_47 rfl ?_
      refine q_iconst (pc := 48) dX6_readAllFeet_48 ?_
      refine q_bipush (pc := 49) dX6_readAllFeet_49 (by decide +kernel) ?_
      refine q_bipush (pc := 51) dX6_readAllFeet_51 (by decide +kernel) ?_
      refine q_V3i (pc := 53) dX6_readAllFeet_53 vX6_53 rfl rfl (Nat.le_of_ble_eq_true rfl) (Nat.le_of_ble_eq_true rfl) (x_num (s := s2) hb2 hK (by omega) i2 (by omega) (by omega) (by omega)) (fun r3 σ3 hc3 => ?_)
      obtain ⟨rfl, hF3, hT3⟩ := hc3
      rw [hs3] at hT3
      refine q_iast (pc := 56) dX6_readAllFeet_56 rfl (by omega) ?_
      have hF3' : Fr σ (up σ3 28 i (nvS tp tl s2)) [13, 27, 28] := (hF2'.tt (hF3.wk (by simp))).tt (Fr.up (by simp))
      have hb3 := (hT3.fr (S := [28]) (Fr.up (k := 28) (i := i) (v := nvS tp tl s2) (by simp)) (by simp) (by simp))
      have hf3 := hb3.2.2.1
      have i3a := i3.1
      refine q_aload_n (pc := 57) dX6_readAllFeet_57 rfl ?_
      refine q_gI (pc := 58) 3 dX6_readAllFeet_58 fX6_22 rfl rfl rfl ?_
      refine q_ifeq (pc := 61) (tgt := 66) dX6_readAllFeet_61 (by decide) (by omega) (fun h61 => ?_) (fun h61 => ?_)
      · refine q_iinc (pc := 66) dX6_readAllFeet_66 rfl (Nat.le_of_ble_eq_true rfl) ?_
        refine q_goto (pc := 69) (tgt := 2) dX6_readAllFeet_69 (by decide) ?_
        exact q_locs _ [0, 1, 2] rfl (kk _ hF3' hb3 (by omega) (fun j => by rw [up_ne (by omega), hF3 27 (by simp), up_same, hF2 27 (by simp), hF1 27 (by simp)]) (fun j => by rw [up_same, hF3 28 (by simp), up_ne (by omega), hF2 28 (by simp), hF1 28 (by simp)]))
      · refine q_iconst (pc := 64) dX6_readAllFeet_64 ?_
        refine q_rz (pc := 65) dX6_readAllFeet_65 rfl (by first | exact bi_01 _ | omega) ?_
        exact kf _ hF3' hb3 (by omega)
    · refine q_iconst (pc := 40) dX6_readAllFeet_40 ?_
      refine q_rz (pc := 41) dX6_readAllFeet_41 rfl (by first | exact bi_01 _ | omega) ?_
      have n2 : s2.1 ≠ 0 := by omega
      have z3 : s3 = s2 := by rw [← hs3]; exact ntS_f n2
      exact kf _ hF2' (by rw [z3]; exact hb2) (by rw [z3]; exact n2)
  · rw [hs1] at hT1 h13
    refine q_iconst (pc := 16) dX6_readAllFeet_16 ?_
    refine q_rz (pc := 17) dX6_readAllFeet_17 rfl (by first | exact bi_01 _ | omega) ?_
    have z2 : s2 = s1 := by rw [← hs2]; exact ntS_f h13
    have z3 : s3 = s1 := by rw [← hs3, z2]; exact ntS_f h13
    exact kf σ1 (hF1.wk (by simp)) (by rw [z3]; exact hT1) (by rw [z3]; exact h13)
theorem x_allFeet (hT : TP σ tp tl s) (hK : TK tp tl) (h0 : s.1 = 0) (hI : sIn tl s) : qE G mX6_readAllFeet (d + 3) 0 [(0, vr 13), (1, vr 26)] [] σ (ri fun r σ1 => bi ((ftS tp tl (ftS tp tl (ftS tp tl s))).1 = 0) = r ∧ Fr σ σ1 [13, 27, 28] ∧ TP σ1 tp tl (ftS tp tl (ftS tp tl (ftS tp tl s))) ∧ ((ftS tp tl (ftS tp tl (ftS tp tl s))).1 = 0 → (σ1 27 0 = fh tp tl s ∧ σ1 27 1 = fh tp tl (ftS tp tl s) ∧ σ1 27 2 = fh tp tl (ftS tp tl (ftS tp tl s))) ∧ (σ1 28 0 = fs tp tl s ∧ σ1 28 1 = fs tp tl (ftS tp tl s) ∧ σ1 28 2 = fs tp tl (ftS tp tl (ftS tp tl s))))) := by
  have i1 : sIn tl (ftS tp tl s) := ftS_in hI
  have i2 : sIn tl (ftS tp tl (ftS tp tl s)) := ftS_in i1
  refine q_iconst (pc := 0) dX6_readAllFeet_0 ?_
  refine q_istore_n (pc := 1) dX6_readAllFeet_1 (Nat.le_of_ble_eq_true rfl) ?_
  refine x_foot1 (i := 0) (by omega) hT hK h0 hI (fun σ1 hF1 hT1 z1 a1 b1 => ?_) (fun σ1 hF1 hT1 z1 => ?_)
  · refine x_foot1 (i := 0 + 1) (by omega) hT1 hK z1 i1 (fun σ2 hF2 hT2 z2 a2 b2 => ?_) (fun σ2 hF2 hT2 z2 => ?_)
    · refine x_foot1 (i := 0 + 1 + 1) (by omega) hT2 hK z2 i2 (fun σ3 hF3 hT3 z3 a3 b3 => ?_) (fun σ3 hF3 hT3 z3 => ?_)
      · skip
        refine q_iload_n (pc := 2) dX6_readAllFeet_2 rfl ?_
        refine q_iconst (pc := 3) dX6_readAllFeet_3 ?_
        refine q_icmpge (pc := 4) (tgt := 72) dX6_readAllFeet_4 (by decide) (by omega) (by omega) (fun h4 => ?_) (fun h => absurd h (by omega))
        refine q_iconst (pc := 72) dX6_readAllFeet_72 ?_
        refine q_rz (pc := 73) dX6_readAllFeet_73 rfl (by first | exact bi_01 _ | omega) ?_
        refine ⟨(bi_t z3).trans rfl, (hF1.tt hF2).tt hF3, hT3, fun _ => ⟨⟨?_, ?_, ?_⟩, ?_, ?_, ?_⟩⟩
        · rw [a3, if_neg (by omega), a2, if_neg (by omega), a1, if_pos rfl]
        · rw [a3, if_neg (by omega), a2, if_pos (by omega)]
        · rw [a3, if_pos (by omega)]
        · rw [b3, if_neg (by omega), b2, if_neg (by omega), b1, if_pos rfl]
        · rw [b3, if_neg (by omega), b2, if_pos (by omega)]
        · rw [b3, if_pos (by omega)]
      · exact ⟨bi_f z3, (hF1.tt hF2).tt hF3, hT3, fun z => absurd z z3⟩
    · have e : ftS tp tl (ftS tp tl (ftS tp tl s)) = ftS tp tl (ftS tp tl s) := ftS_f z2
      rw [e]
      exact ⟨bi_f z2, hF1.tt hF2, hT2, fun z => absurd z z2⟩
  · have e : ftS tp tl (ftS tp tl s) = ftS tp tl s := ftS_f z1
    rw [e, e]
    exact ⟨bi_f z1, hF1, hT1, fun z => absurd z z1⟩
end T6
