/-! ===== the class: wrong ===== -/
def pB (D : Int) : Nat → Int
  | 0 => 0
  | i + 1 => pB D i + qand (qshr D i) 1
theorem pB_wC {f : Int → Int} (hR : Row f) : ∀ m : Nat, m ≤ 7 → (wC f m : Int) = m - pB (f 6) m
  | 0, _ => rfl
  | m + 1, hm => by
    have ih := pB_wC hR m (by omega)
    have h6 := hR.2.2.2.1
    have h7 := pow7 hR.de
    have hb := (qbit_i (a := f 6) (i := m) (by omega) (by omega)).1
    show ((wC f m + if mDone f m then 0 else 1 : Nat) : Int) = ((m + 1 : Nat) : Int) - (pB (f 6) m + qand (qshr (f 6) m) 1)
    split
    · rename_i c
      have c : qand (qshr (f 6) m) 1 = 1 := c
      omega
    · rename_i c
      have c : ¬ qand (qshr (f 6) m) 1 = 1 := c
      omega
theorem pB_hi {f : Int → Int} (hR : Row f) : ∀ j : Nat, (f 5).toNat + j ≤ 7 → pB (f 6) ((f 5).toNat + j) = pB (f 6) (f 5).toNat
  | 0, _ => rfl
  | j + 1, hj => by
    have ih := pB_hi hR j (by omega)
    have h6 := hR.2.2.2.1
    have h5 := hR.de
    have h7 := pow7 h5
    have hb := (qbit_i (a := f 6) (i := ((f 5).toNat + j : Nat)) (by omega) (by omega)).1
    have hn := bt_hi (s := (f 6).toNat) (m := (f 5).toNat) (i := (f 5).toNat + j) (by omega) (by have := h6.2; rw [pow_c] at this; omega) (by omega) (by omega)
    have hn : ¬ qand (qshr (((f 6).toNat : Nat) : Int) (((f 5).toNat + j : Nat) : Int)) 1 = 1 := hn
    rw [show (((f 6).toNat : Nat) : Int) = f 6 by omega] at hn
    show pB (f 6) ((f 5).toNat + j) + qand (qshr (f 6) (((f 5).toNat + j : Nat) : Int)) 1 = _
    omega
theorem left_eq {f : Int → Int} (hR : Row f) : f 5 - pB (f 6) 7 = (wC f (f 5).toNat : Int) := by
  have h5 := hR.de
  have h1 := pB_wC hR (f 5).toNat (by omega)
  have h2 := pB_hi hR (7 - (f 5).toNat) (by omega)
  rw [show (f 5).toNat + (7 - (f 5).toNat) = 7 by omega] at h2
  omega
def bcE (a : Int) : Int :=
  let b := a - qand (qush a 1) 1431655765
  let c := qand b 858993459 + qand (qush b 2) 858993459
  let e := qand (c + qush c 4) 252645135
  let g := e + qush e 8
  qand (g + qush g 16) 63
theorem bcE_eq : ∀ a : Fin 128, bcE (a : Nat) = pB (a : Nat) 7 := by decide +kernel
section T2
variable {G : qGl} {d : Nat} {σ : qM} {A : qA} {f g : Int → Int}
theorem t_bitCount {a : Int} (ha : 0 ≤ a ∧ a < 128) : qE G mJ6_bitCount_0f7a4 d 0 [(0, vi a)] [] σ (ri fun r σ1 => pB a 7 = r ∧ σ = σ1) := by
  refine q_iload_n (pc := 0) dJ6_bitCount_0f7a4_0 rfl ?_
  refine q_iload_n (pc := 1) dJ6_bitCount_0f7a4_1 rfl ?_
  refine q_iconst (pc := 2) dJ6_bitCount_0f7a4_2 ?_
  refine q_iushr (pc := 3) dJ6_bitCount_0f7a4_3 ?_
  refine q_ldcw (pc := 4) (n := 1431655765) kJ6_265 dJ6_bitCount_0f7a4_4 ?_
  refine q_iand (pc := 7) dJ6_bitCount_0f7a4_7 ?_
  refine q_isub (pc := 8) dJ6_bitCount_0f7a4_8 ?_
  refine q_istore_n (pc := 9) dJ6_bitCount_0f7a4_9 (Nat.le_of_ble_eq_true rfl) ?_
  refine q_iload_n (pc := 10) dJ6_bitCount_0f7a4_10 rfl ?_
  refine q_ldcw (pc := 11) (n := 858993459) kJ6_266 dJ6_bitCount_0f7a4_11 ?_
  refine q_iand (pc := 14) dJ6_bitCount_0f7a4_14 ?_
  refine q_iload_n (pc := 15) dJ6_bitCount_0f7a4_15 rfl ?_
  refine q_iconst (pc := 16) dJ6_bitCount_0f7a4_16 ?_
  refine q_iushr (pc := 17) dJ6_bitCount_0f7a4_17 ?_
  refine q_ldcw (pc := 18) (n := 858993459) kJ6_266 dJ6_bitCount_0f7a4_18 ?_
  refine q_iand (pc := 21) dJ6_bitCount_0f7a4_21 ?_
  refine q_iadd (pc := 22) dJ6_bitCount_0f7a4_22 ?_
  refine q_istore_n (pc := 23) dJ6_bitCount_0f7a4_23 (Nat.le_of_ble_eq_true rfl) ?_
  refine q_iload_n (pc := 24) dJ6_bitCount_0f7a4_24 rfl ?_
  refine q_iload_n (pc := 25) dJ6_bitCount_0f7a4_25 rfl ?_
  refine q_iconst (pc := 26) dJ6_bitCount_0f7a4_26 ?_
  refine q_iushr (pc := 27) dJ6_bitCount_0f7a4_27 ?_
  refine q_iadd (pc := 28) dJ6_bitCount_0f7a4_28 ?_
  refine q_ldcw (pc := 29) (n := 252645135) kJ6_267 dJ6_bitCount_0f7a4_29 ?_
  refine q_iand (pc := 32) dJ6_bitCount_0f7a4_32 ?_
  refine q_istore_n (pc := 33) dJ6_bitCount_0f7a4_33 (Nat.le_of_ble_eq_true rfl) ?_
  refine q_iload_n (pc := 34) dJ6_bitCount_0f7a4_34 rfl ?_
  refine q_iload_n (pc := 35) dJ6_bitCount_0f7a4_35 rfl ?_
  refine q_bipush (pc := 36) dJ6_bitCount_0f7a4_36 (by decide +kernel) ?_
  refine q_iushr (pc := 38) dJ6_bitCount_0f7a4_38 ?_
  refine q_iadd (pc := 39) dJ6_bitCount_0f7a4_39 ?_
  refine q_istore_n (pc := 40) dJ6_bitCount_0f7a4_40 (Nat.le_of_ble_eq_true rfl) ?_
  refine q_iload_n (pc := 41) dJ6_bitCount_0f7a4_41 rfl ?_
  refine q_iload_n (pc := 42) dJ6_bitCount_0f7a4_42 rfl ?_
  refine q_bipush (pc := 43) dJ6_bitCount_0f7a4_43 (by decide +kernel) ?_
  refine q_iushr (pc := 45) dJ6_bitCount_0f7a4_45 ?_
  refine q_iadd (pc := 46) dJ6_bitCount_0f7a4_46 ?_
  refine q_istore_n (pc := 47) dJ6_bitCount_0f7a4_47 (Nat.le_of_ble_eq_true rfl) ?_
  refine q_iload_n (pc := 48) dJ6_bitCount_0f7a4_48 rfl ?_
  refine q_bipush (pc := 49) dJ6_bitCount_0f7a4_49 (by decide +kernel) ?_
  refine q_iand (pc := 51) dJ6_bitCount_0f7a4_51 ?_
  refine q_ri (pc := 52) dJ6_bitCount_0f7a4_52 rfl ?_
  refine ⟨?_, rfl⟩
  have h := bcE_eq ⟨a.toNat, by omega⟩
  simp only at h
  rw [show ((a.toNat : Nat) : Int) = a by omega] at h
  exact h.symm
theorem t_X4_leftCount (hs : SiR σ 15 f) (hR : Row f) : qE G mX4_leftCount (d + 1) 0 [(0, vr 15)] [] σ (ri fun r σ1 => (wC f (f 5).toNat : Int) = r ∧ σ = σ1) := by
  have e5 := hs.1.2.2.1
  have e6 := hs.1.2.2.2
  have h6 := hR.2.2.2.1
  have h7 := pow7 hR.de
  refine q_aload_n (pc := 0) dX4_leftCount_0 rfl ?_
  refine q_gI (pc := 1) 5 dX4_leftCount_1 fX4_39 rfl rfl rfl ?_
  refine q_aload_n (pc := 4) dX4_leftCount_4 rfl ?_
  refine q_gI (pc := 5) 6 dX4_leftCount_5 fX4_42 rfl rfl rfl ?_
  refine q_S1i (pc := 8) dX4_leftCount_8 vX4_61 (Nat.le_of_ble_eq_true rfl) (Nat.le_of_ble_eq_true rfl) (t_bitCount (by rw [e6]; omega)) (fun r1 σ1 hc1 => ?_)
  obtain ⟨rfl, rfl⟩ := hc1
  refine q_isub (pc := 11) dX4_leftCount_11 ?_
  refine q_ri (pc := 12) dX4_leftCount_12 rfl ?_
  exact ⟨by rw [e5, e6]; exact (left_eq hR).symm, rfl⟩
theorem x_all_l : ∀ (k : Nat) (v : Int), k ≤ 7 → qE G mX2_casesInAll (d + 2) 8 [(4, vi k), (2, vl v), (0, vr 46), (1, vr 15)] [] σ (rl fun r σ1 => v * 10 ^ k = r ∧ σ = σ1) := by
  intro k
  induction k with
  | zero =>
    intro v _
    refine q_iload (pc := 8) dX2_casesInAll_8 rfl ?_
    refine q_ifle (pc := 10) (tgt := 25) dX2_casesInAll_10 (by decide) (by omega) (fun h10 => ?_) (fun h => absurd h (by omega))
    refine q_lload_n (pc := 25) dX2_casesInAll_25 rfl ?_
    refine q_rl (pc := 26) dX2_casesInAll_26 rfl ?_
    exact ⟨by rw [Int.pow_zero, Int.mul_one], rfl⟩
  | succ k ih =>
    intro v hk
    refine q_iload (pc := 8) dX2_casesInAll_8 rfl ?_
    refine q_ifle (pc := 10) (tgt := 25) dX2_casesInAll_10 (by decide) (by omega) (fun h => absurd h (by omega)) (fun h10 => ?_)
    refine q_lload_n (pc := 13) dX2_casesInAll_13 rfl ?_
    refine q_ldc2 (pc := 14) (n := 10) kX2_140 dX2_casesInAll_14 ?_
    refine q_lmul (pc := 17) dX2_casesInAll_17 ?_
    refine q_lstore_n (pc := 18) dX2_casesInAll_18 (Nat.le_of_ble_eq_true rfl) ?_
    refine q_iinc (pc := 19) dX2_casesInAll_19 rfl (Nat.le_of_ble_eq_true rfl) ?_
    refine q_goto (pc := 22) (tgt := 8) dX2_casesInAll_22 (by decide) ?_
    have q := ih (v * 10) (by omega)
    rw [show v * 10 * 10 ^ k = v * 10 ^ (k + 1) by rw [Int.pow_succ, Int.mul_assoc, Int.mul_comm 10]] at q
    rw [show ((k + 1 : Nat) : Int) + -1 = k by omega]
    exact q_locs _ [0, 1, 2, 3] rfl q
theorem x_all (hs : SiR σ 15 f) (hR : Row f) : qE G mX2_casesInAll (d + 2) 0 [(0, vr 46), (1, vr 15)] [] σ (rl fun r σ1 => (10 : Int) ^ wC f (f 5).toNat = r ∧ σ = σ1) := by
  have h5 := hR.de
  have hc := wC_in f (f 5).toNat
  refine q_lconst1 (pc := 0) dX2_casesInAll_0 ?_
  refine q_lstore_n (pc := 1) dX2_casesInAll_1 (Nat.le_of_ble_eq_true rfl) ?_
  refine q_aload_n (pc := 2) dX2_casesInAll_2 rfl ?_
  refine q_V0i (pc := 3) dX2_casesInAll_3 vX2_82 rfl rfl (Nat.le_of_ble_eq_true rfl) (Nat.le_of_ble_eq_true rfl) (t_X4_leftCount hs hR) (fun r1 σ1 hc1 => ?_)
  obtain ⟨rfl, rfl⟩ := hc1
  refine q_istore (pc := 6) dX2_casesInAll_6 (Nat.le_of_ble_eq_true rfl) ?_
  have q := x_all_l (G := G) (d := d) (σ := σ) (wC f (f 5).toNat) 1 (by omega)
  rw [Int.one_mul] at q
  exact q_locs _ [0, 1, 2, 3] rfl q
theorem x_case_in {p a : Int} {s : Nat} {Q : Option qV → qM → Prop} (hs0 : SiR σ 15 f) (hR : Row f) (h1 : f 0 = 1) (hs : s < 2 ^ (f 5).toNat) (hok : wok f s (f 5).toNat) (hp : 0 ≤ p ∧ p ≤ 10) (kk : ∀ σ1 x, Fr σ σ1 [48, 49] → StR σ1 47 (wG f s (f 5).toNat) → qE G mX2_casesLevel (d + 5) 126 [(8, vi x), (6, vl (wW p f s (f 5).toNat)), (5, vi s), (3, vl a), (0, vr 46), (1, vr 15), (2, vi p)] [] σ1 Q) : ∀ (m i : Nat) (σ' : qM), m + i = (f 5).toNat → Fr σ σ' [48, 49] → StR σ' 47 (wG f s i) → qE G mX2_casesLevel (d + 5) 46 [(8, vi i), (6, vl (wW p f s i)), (5, vi s), (3, vl a), (0, vr 46), (1, vr 15), (2, vi p)] [] σ' Q := by
  intro m
  have h5 := hR.de
  have h7 := p2 (m := (f 5).toNat) (by omega)
  induction m with
  | zero =>
    intro i σ' hm hF hS
    have e5 := (hs0.fr hF (fun j a b => by simp; omega)).1.2.2.1
    refine q_iload (pc := 46) dX2_casesLevel_46 rfl ?_
    refine q_aload_n (pc := 48) dX2_casesLevel_48 rfl ?_
    refine q_gI (pc := 49) 5 dX2_casesLevel_49 fX2_70 rfl rfl rfl ?_
    refine q_icmpge (pc := 52) (tgt := 126) dX2_casesLevel_52 (by decide) (by omega) (by omega) (fun h52 => ?_) (fun h => absurd h (by omega))
    have e : i = (f 5).toNat := by omega
    subst e
    exact kk σ' _ hF hS
  | succ m ih =>
    intro i σ' hm hF hS
    have hsi := hs0.fr hF (fun j a b => by simp; omega)
    have e5 := hsi.1.2.2.1
    have hb := bt_01 (s := s) (i := i) (by omega) (by omega)
    obtain ⟨r1, r2⟩ := wG_row hR s i (by omega)
    refine q_iload (pc := 46) dX2_casesLevel_46 rfl ?_
    refine q_aload_n (pc := 48) dX2_casesLevel_48 rfl ?_
    refine q_gI (pc := 49) 5 dX2_casesLevel_49 fX2_70 rfl rfl rfl ?_
    refine q_icmpge (pc := 52) (tgt := 126) dX2_casesLevel_52 (by decide) (by omega) (by omega) (fun h => absurd h (by omega)) (fun h52 => ?_)
    refine q_aload_n (pc := 55) dX2_casesLevel_55 rfl ?_
    refine q_iload (pc := 56) dX2_casesLevel_56 rfl ?_
    refine q_V1i (pc := 58) dX2_casesLevel_58 vX2_74 rfl rfl (Nat.le_of_ble_eq_true rfl) (Nat.le_of_ble_eq_true rfl) (t_X4_isDone si15 hsi) (fun r1 σ1 hc1 => ?_)
    obtain ⟨rfl, rfl⟩ := hc1
    refine q_ifeqb (pc := 61) (tgt := 67) dX2_casesLevel_61 (by decide) (fun h61 => ?_) (fun h61 => ?_)
    · refine q_iload (pc := 67) dX2_casesLevel_67 rfl ?_
      refine q_iload (pc := 69) dX2_casesLevel_69 rfl ?_
      refine q_ishr (pc := 71) dX2_casesLevel_71 ?_
      refine q_iconst (pc := 72) dX2_casesLevel_72 ?_
      refine q_iand (pc := 73) dX2_casesLevel_73 ?_
      refine q_iconst (pc := 74) dX2_casesLevel_74 ?_
      refine q_icmpne (pc := 75) (tgt := 82) dX2_casesLevel_75 (by decide) (by omega) (by omega) (fun h75 => ?_) (fun h75 => ?_)
      · refine q_iconst (pc := 82) dX2_casesLevel_82 ?_
        refine q_istore (pc := 83) dX2_casesLevel_83 (Nat.le_of_ble_eq_true rfl) ?_
        refine q_iload (pc := 85) dX2_casesLevel_85 rfl ?_
        refine q_ifeq (pc := 87) (tgt := 100) dX2_casesLevel_87 (by decide) (by omega) (fun h87 => ?_) (fun h => absurd h (by omega))
        refine q_lload (pc := 100) dX2_casesLevel_100 rfl ?_
        refine q_iload (pc := 102) dX2_casesLevel_102 rfl ?_
        refine q_ifeq (pc := 104) (tgt := 115) dX2_casesLevel_104 (by decide) (by omega) (fun h104 => ?_) (fun h => absurd h (by omega))
        refine q_iload_n (pc := 115) dX2_casesLevel_115 rfl ?_
        refine q_i2l (pc := 116) dX2_casesLevel_116 (by omega) ?_
        refine q_lmul (pc := 117) dX2_casesLevel_117 ?_
        refine q_lstore (pc := 118) dX2_casesLevel_118 (Nat.le_of_ble_eq_true rfl) ?_
        refine q_iinc (pc := 120) dX2_casesLevel_120 rfl (Nat.le_of_ble_eq_true rfl) ?_
        refine q_goto (pc := 123) (tgt := 46) dX2_casesLevel_123 (by decide) ?_
        first
        | (have eb : ¬ bt s i := fun z => hok i (by omega) z (by assumption)
           have e1 : wW p f s (i + 1) = wW p f s i := if_pos (by assumption)
           have e2 : wG f s (i + 1) = wG f s i := if_neg eb
           have q := ih (i + 1) σ' (by omega) hF (by rw [e2]; exact hS)
           rw [e1] at q
           exact q_locs _ [0, 1, 3, 4, 5, 6, 7] rfl q)
        | (have eb : bt s i := by assumption
           have e1 : wW p f s (i + 1) = wW p f s i * (10 - p) := by
             show (if mDone f i then _ else if bt s i then _ else _) = _
             rw [if_neg (by assumption), if_pos eb]
           have e2 : wG f s (i + 1) = mDo (wG f s i) i := if_pos eb
           have q := ih (i + 1) σ1 (by omega) (hF.tt (hF1.wk (by simp))) (by
             rw [e2]
             refine hS1.congr (fun j x y => ?_)
             unfold mDo
             rw [u1_ne (by omega), r2 _ (by omega), r2 _ (by omega), r2 _ (by omega)])
           rw [e1] at q
           exact q_locs _ [0, 1, 3, 4, 5, 6, 7] rfl q)
        | (have eb : ¬ bt s i := by assumption
           have e1 : wW p f s (i + 1) = wW p f s i * p := by
             show (if mDone f i then _ else if bt s i then _ else _) = _
             rw [if_neg (by assumption), if_neg eb]
           have e2 : wG f s (i + 1) = wG f s i := if_neg eb
           have q := ih (i + 1) σ' (by omega) hF (by rw [e2]; exact hS)
           rw [e1] at q
           exact q_locs _ [0, 1, 3, 4, 5, 6, 7] rfl q)
      · refine q_iconst (pc := 78) dX2_casesLevel_78 ?_
        refine q_goto (pc := 79) (tgt := 83) dX2_casesLevel_79 (by decide) ?_
        refine q_istore (pc := 83) dX2_casesLevel_83 (Nat.le_of_ble_eq_true rfl) ?_
        refine q_iload (pc := 85) dX2_casesLevel_85 rfl ?_
        refine q_ifeq (pc := 87) (tgt := 100) dX2_casesLevel_87 (by decide) (by omega) (fun h => absurd h (by omega)) (fun h87 => ?_)
        refine q_aload_n (pc := 90) dX2_casesLevel_90 rfl ?_
        refine q_iload (pc := 91) dX2_casesLevel_91 rfl ?_
        refine q_aload_n (pc := 93) dX2_casesLevel_93 rfl ?_
        refine q_getR (pc := 94) dX2_casesLevel_94 fX2_12 rfl rfl ?_
        refine q_V2v (pc := 97) dX2_casesLevel_97 vX2_65 rfl rfl (Nat.le_of_ble_eq_true rfl) (Nat.le_of_ble_eq_true rfl) (t_X4_enact si15 st47 hsi hR (by omega) hS r1.1) (fun σ2 hc2 => ?_)
        obtain ⟨hF2, hS2, hO2⟩ := hc2
        refine q_lload (pc := 100) dX2_casesLevel_100 rfl ?_
        refine q_iload (pc := 102) dX2_casesLevel_102 rfl ?_
        refine q_ifeq (pc := 104) (tgt := 115) dX2_casesLevel_104 (by decide) (by omega) (fun h => absurd h (by omega)) (fun h104 => ?_)
        refine q_bipush (pc := 107) dX2_casesLevel_107 (by decide +kernel) ?_
        refine q_iload_n (pc := 109) dX2_casesLevel_109 rfl ?_
        refine q_isub (pc := 110) dX2_casesLevel_110 ?_
        refine q_i2l (pc := 111) dX2_casesLevel_111 (by omega) ?_
        refine q_goto (pc := 112) (tgt := 117) dX2_casesLevel_112 (by decide) ?_
        refine q_lmul (pc := 117) dX2_casesLevel_117 ?_
        refine q_lstore (pc := 118) dX2_casesLevel_118 (Nat.le_of_ble_eq_true rfl) ?_
        refine q_iinc (pc := 120) dX2_casesLevel_120 rfl (Nat.le_of_ble_eq_true rfl) ?_
        refine q_goto (pc := 123) (tgt := 46) dX2_casesLevel_123 (by decide) ?_
        first
        | (have eb : ¬ bt s i := fun z => hok i (by omega) z (by assumption)
           have e1 : wW p f s (i + 1) = wW p f s i := if_pos (by assumption)
           have e2 : wG f s (i + 1) = wG f s i := if_neg eb
           have q := ih (i + 1) σ' (by omega) hF (by rw [e2]; exact hS)
           rw [e1] at q
           exact q_locs _ [0, 1, 3, 4, 5, 6, 7] rfl q)
        | (have eb : bt s i := by assumption
           have e1 : wW p f s (i + 1) = wW p f s i * (10 - p) := by
             show (if mDone f i then _ else if bt s i then _ else _) = _
             rw [if_neg (by assumption), if_pos eb]
           have e2 : wG f s (i + 1) = mDo (wG f s i) i := if_pos eb
           have q := ih (i + 1) σ2 (by omega) (hF.tt (hF2.wk (by simp))) (by
             rw [e2]
             refine hS2.congr (fun j x y => ?_)
             unfold mDo
             rw [u1_ne (by omega), r2 _ (by omega), r2 _ (by omega), r2 _ (by omega)])
           rw [e1] at q
           exact q_locs _ [0, 1, 3, 4, 5, 6, 7] rfl q)
        | (have eb : ¬ bt s i := by assumption
           have e1 : wW p f s (i + 1) = wW p f s i * p := by
             show (if mDone f i then _ else if bt s i then _ else _) = _
             rw [if_neg (by assumption), if_neg eb]
           have e2 : wG f s (i + 1) = wG f s i := if_neg eb
           have q := ih (i + 1) σ' (by omega) hF (by rw [e2]; exact hS)
           rw [e1] at q
           exact q_locs _ [0, 1, 3, 4, 5, 6, 7] rfl q)
    · refine q_goto (pc := 64) (tgt := 120) dX2_casesLevel_64 (by decide) ?_
      refine q_iinc (pc := 120) dX2_casesLevel_120 rfl (Nat.le_of_ble_eq_true rfl) ?_
      refine q_goto (pc := 123) (tgt := 46) dX2_casesLevel_123 (by decide) ?_
      first
      | (have eb : ¬ bt s i := fun z => hok i (by omega) z (by assumption)
         have e1 : wW p f s (i + 1) = wW p f s i := if_pos (by assumption)
         have e2 : wG f s (i + 1) = wG f s i := if_neg eb
         have q := ih (i + 1) σ' (by omega) hF (by rw [e2]; exact hS)
         rw [e1] at q
         exact q_locs _ [0, 1, 2, 3, 4, 5, 6] rfl q)
      | (have eb : bt s i := by assumption
         have e1 : wW p f s (i + 1) = wW p f s i * (10 - p) := by
           show (if mDone f i then _ else if bt s i then _ else _) = _
           rw [if_neg (by assumption), if_pos eb]
         have e2 : wG f s (i + 1) = mDo (wG f s i) i := if_pos eb
         have q := ih (i + 1) σ1 (by omega) (hF.tt (hF1.wk (by simp))) (by
           rw [e2]
           refine hS1.congr (fun j x y => ?_)
           unfold mDo
           rw [u1_ne (by omega), r2 _ (by omega), r2 _ (by omega), r2 _ (by omega)])
         rw [e1] at q
         exact q_locs _ [0, 1, 2, 3, 4, 5, 6] rfl q)
      | (have eb : ¬ bt s i := by assumption
         have e1 : wW p f s (i + 1) = wW p f s i * p := by
           show (if mDone f i then _ else if bt s i then _ else _) = _
           rw [if_neg (by assumption), if_neg eb]
         have e2 : wG f s (i + 1) = wG f s i := if_neg eb
         have q := ih (i + 1) σ' (by omega) hF (by rw [e2]; exact hS)
         rw [e1] at q
         exact q_locs _ [0, 1, 2, 3, 4, 5, 6] rfl q)
theorem x_cases_l {p : Int} (hs0 : SiR σ 15 f) (hR : Row f) (h1 : f 0 = 1) (hp : 0 ≤ p ∧ p ≤ 10) : ∀ (m s : Nat) (σ' : qM), m + s = 2 ^ (f 5).toNat → Fr σ σ' [48, 49] → qE G mX2_casesLevel (d + 5) 5 [(5, vi s), (3, vl (sA p f (f 5).toNat s)), (0, vr 46), (1, vr 15), (2, vi p)] [] σ' (rl fun r σ1 => wA f p = r ∧ Fr σ σ1 [48, 49]) := by
  have h5 := hR.de
  have h7 := p2 (m := (f 5).toNat) (by omega)
  have h6 := hR.2.2.2.1
  have hq := wL6 ⟨(f 5).toNat, by omega⟩
  simp only at hq
  rw [show (((f 5).toNat : Nat) : Int) = f 5 by omega, pow_c] at hq
  intro m
  induction m with
  | zero =>
    intro s σ' hm hF
    have e5 := (hs0.fr hF (fun j a b => by simp; omega)).1.2.2.1
    have hq' : qshl 1 (σ' 15 5) = ((2 ^ (f 5).toNat : Nat) : Int) := by rw [e5]; exact hq
    refine q_iload (pc := 5) dX2_casesLevel_5 rfl ?_
    refine q_iconst (pc := 7) dX2_casesLevel_7 ?_
    refine q_aload_n (pc := 8) dX2_casesLevel_8 rfl ?_
    refine q_gI (pc := 9) 5 dX2_casesLevel_9 fX2_70 rfl rfl rfl ?_
    refine q_ishl (pc := 12) dX2_casesLevel_12 ?_
    refine q_icmpge (pc := 13) (tgt := 148) dX2_casesLevel_13 (by decide) (by omega) (by omega) (fun h13 => ?_) (fun h => absurd h (by omega))
    refine q_lload_n (pc := 148) dX2_casesLevel_148 rfl ?_
    refine q_rl (pc := 149) dX2_casesLevel_149 rfl ?_
    exact ⟨by rw [show s = 2 ^ (f 5).toNat by omega], hF⟩
  | succ m ih =>
    intro s σ' hm hF
    have hsi := hs0.fr hF (fun j a b => by simp; omega)
    have e5 := hsi.1.2.2.1
    have e6 := hsi.1.2.2.2
    have hq' : qshl 1 (σ' 15 5) = ((2 ^ (f 5).toNat : Nat) : Int) := by rw [e5]; exact hq
    have hok := wok_c hR (s := s) (by omega)
    rw [← e6] at hok
    have hqi := qand_in s (σ' 15 6)
    refine q_iload (pc := 5) dX2_casesLevel_5 rfl ?_
    refine q_iconst (pc := 7) dX2_casesLevel_7 ?_
    refine q_aload_n (pc := 8) dX2_casesLevel_8 rfl ?_
    refine q_gI (pc := 9) 5 dX2_casesLevel_9 fX2_70 rfl rfl rfl ?_
    refine q_ishl (pc := 12) dX2_casesLevel_12 ?_
    refine q_icmpge (pc := 13) (tgt := 148) dX2_casesLevel_13 (by decide) (by omega) (by omega) (fun h => absurd h (by omega)) (fun h13 => ?_)
    refine q_iload (pc := 16) dX2_casesLevel_16 rfl ?_
    refine q_aload_n (pc := 18) dX2_casesLevel_18 rfl ?_
    refine q_gI (pc := 19) 6 dX2_casesLevel_19 fX2_85 rfl rfl rfl ?_
    refine q_iand (pc := 22) dX2_casesLevel_22 ?_
    refine q_ifeq (pc := 23) (tgt := 29) dX2_casesLevel_23 (by decide) (by omega) (fun h23 => ?_) (fun h23 => ?_)
    · refine q_aload_n (pc := 29) dX2_casesLevel_29 rfl ?_
      refine q_getR (pc := 30) dX2_casesLevel_30 fX2_12 rfl rfl ?_
      refine q_aload_n (pc := 33) dX2_casesLevel_33 rfl ?_
      refine q_getR (pc := 34) dX2_casesLevel_34 fX2_50 rfl rfl ?_
      refine q_V1v (pc := 37) dX2_casesLevel_37 vX2_42 rfl rfl (Nat.le_of_ble_eq_true rfl) (Nat.le_of_ble_eq_true rfl) (t_X5_copyFrom st47 st19 hsi.2.2.1) (fun σ1 hc1 => ?_)
      obtain ⟨hF1, hS1⟩ := hc1
      refine q_lconst1 (pc := 40) dX2_casesLevel_40 ?_
      refine q_lstore (pc := 41) dX2_casesLevel_41 (Nat.le_of_ble_eq_true rfl) ?_
      refine q_iconst (pc := 43) dX2_casesLevel_43 ?_
      refine q_istore (pc := 44) dX2_casesLevel_44 (Nat.le_of_ble_eq_true rfl) ?_
      refine q_locs _ [0, 1, 2, 3, 4, 5, 6] rfl (x_case_in (σ := σ1) (hsi.fr hF1 (fun j a b => by simp; omega)) hR h1 (by omega) (hok.mp (by assumption)) hp (fun τ x hF2 hS2 => ?_) (f 5).toNat 0 σ1 (by omega) Fr.rf hS1)
      have hFt : Fr σ' τ [48, 49] := (hF1.wk (by simp)).tt hF2
      obtain ⟨r1, r2⟩ := wG_row hR s (f 5).toNat (by omega)
      refine q_aload_n (pc := 126) dX2_casesLevel_126 rfl ?_
      refine q_aload_n (pc := 127) dX2_casesLevel_127 rfl ?_
      refine q_getR (pc := 128) dX2_casesLevel_128 fX2_12 rfl rfl ?_
      refine q_V1i (pc := 131) dX2_casesLevel_131 vX2_57 rfl rfl (Nat.le_of_ble_eq_true rfl) (Nat.le_of_ble_eq_true rfl) (t_X4_isLevel si15 st47 (hsi.fr hFt (fun j a b => by simp; omega)) hR h1 hS2 r1.1 ⟨r2 1 (by omega), r2 2 (by omega)⟩) (fun r2 σ2 hc2 => ?_)
      obtain ⟨rfl, rfl⟩ := hc2
      refine q_ifeqb (pc := 134) (tgt := 142) dX2_casesLevel_134 (by decide) (fun h134 => ?_) (fun h134 => ?_)
      · refine q_iinc (pc := 142) dX2_casesLevel_142 rfl (Nat.le_of_ble_eq_true rfl) ?_
        refine q_goto (pc := 145) (tgt := 5) dX2_casesLevel_145 (by decide) ?_
        first
        | (have e : sA p f (f 5).toNat (s + 1) = sA p f (f 5).toNat s := by
             show _ + (if wok f s (f 5).toNat ∧ _ then _ else 0) = _
             rw [if_neg (fun z => absurd (hok.mpr z.1) (by assumption)), Int.add_zero]
           have q := ih (s + 1) σ' (by omega) hF
           rw [e] at q
           exact q_locs _ [1, 2, 0, 3, 4, 5, 6] rfl q)
        | (have e : sA p f (f 5).toNat (s + 1) = sA p f (f 5).toNat s := by
             show _ + (if wok f s (f 5).toNat ∧ _ then _ else 0) = _
             rw [if_neg (fun z => absurd z.2 (by assumption)), Int.add_zero]
           have q := ih (s + 1) τ (by omega) (hF.tt hFt)
           rw [e] at q
           exact q_locs _ [0, 3, 4, 5, 6] rfl q)
        | (have e : sA p f (f 5).toNat (s + 1) = sA p f (f 5).toNat s + wW p f s (f 5).toNat := by
             show _ + (if wok f s (f 5).toNat ∧ _ then _ else 0) = _
             rw [if_pos ⟨hok.mp (by assumption), by assumption⟩]
           have q := ih (s + 1) τ (by omega) (hF.tt hFt)
           rw [e] at q
           exact q_locs _ [0, 3, 4, 5, 6] rfl q)
      · refine q_lload_n (pc := 137) dX2_casesLevel_137 rfl ?_
        refine q_lload (pc := 138) dX2_casesLevel_138 rfl ?_
        refine q_ladd (pc := 140) dX2_casesLevel_140 ?_
        refine q_lstore_n (pc := 141) dX2_casesLevel_141 (Nat.le_of_ble_eq_true rfl) ?_
        refine q_iinc (pc := 142) dX2_casesLevel_142 rfl (Nat.le_of_ble_eq_true rfl) ?_
        refine q_goto (pc := 145) (tgt := 5) dX2_casesLevel_145 (by decide) ?_
        first
        | (have e : sA p f (f 5).toNat (s + 1) = sA p f (f 5).toNat s := by
             show _ + (if wok f s (f 5).toNat ∧ _ then _ else 0) = _
             rw [if_neg (fun z => absurd (hok.mpr z.1) (by assumption)), Int.add_zero]
           have q := ih (s + 1) σ' (by omega) hF
           rw [e] at q
           exact q_locs _ [2, 3, 0, 1, 4, 5, 6] rfl q)
        | (have e : sA p f (f 5).toNat (s + 1) = sA p f (f 5).toNat s := by
             show _ + (if wok f s (f 5).toNat ∧ _ then _ else 0) = _
             rw [if_neg (fun z => absurd z.2 (by assumption)), Int.add_zero]
           have q := ih (s + 1) τ (by omega) (hF.tt hFt)
           rw [e] at q
           exact q_locs _ [0, 1, 4, 5, 6] rfl q)
        | (have e : sA p f (f 5).toNat (s + 1) = sA p f (f 5).toNat s + wW p f s (f 5).toNat := by
             show _ + (if wok f s (f 5).toNat ∧ _ then _ else 0) = _
             rw [if_pos ⟨hok.mp (by assumption), by assumption⟩]
           have q := ih (s + 1) τ (by omega) (hF.tt hFt)
           rw [e] at q
           exact q_locs _ [0, 1, 4, 5, 6] rfl q)
    · refine q_goto (pc := 26) (tgt := 142) dX2_casesLevel_26 (by decide) ?_
      refine q_iinc (pc := 142) dX2_casesLevel_142 rfl (Nat.le_of_ble_eq_true rfl) ?_
      refine q_goto (pc := 145) (tgt := 5) dX2_casesLevel_145 (by decide) ?_
      first
      | (have e : sA p f (f 5).toNat (s + 1) = sA p f (f 5).toNat s := by
           show _ + (if wok f s (f 5).toNat ∧ _ then _ else 0) = _
           rw [if_neg (fun z => absurd (hok.mpr z.1) (by assumption)), Int.add_zero]
         have q := ih (s + 1) σ' (by omega) hF
         rw [e] at q
         exact q_locs _ [0, 1, 2, 3, 4] rfl q)
      | (have e : sA p f (f 5).toNat (s + 1) = sA p f (f 5).toNat s := by
           show _ + (if wok f s (f 5).toNat ∧ _ then _ else 0) = _
           rw [if_neg (fun z => absurd z.2 (by assumption)), Int.add_zero]
         have q := ih (s + 1) τ (by omega) (hF.tt hFt)
         rw [e] at q
         exact q_locs _ [0, 1, 2, 3, 4] rfl q)
      | (have e : sA p f (f 5).toNat (s + 1) = sA p f (f 5).toNat s + wW p f s (f 5).toNat := by
           show _ + (if wok f s (f 5).toNat ∧ _ then _ else 0) = _
           rw [if_pos ⟨hok.mp (by assumption), by assumption⟩]
         have q := ih (s + 1) τ (by omega) (hF.tt hFt)
         rw [e] at q
         exact q_locs _ [0, 1, 2, 3, 4] rfl q)
theorem x_cases {p : Int} (hs0 : SiR σ 15 f) (hR : Row f) (h1 : f 0 = 1) (hp : 0 ≤ p ∧ p ≤ 10) : qE G mX2_casesLevel (d + 5) 0 [(0, vr 46), (1, vr 15), (2, vi p)] [] σ (rl fun r σ1 => wA f p = r ∧ Fr σ σ1 [48, 49]) := by
  refine q_lconst0 (pc := 0) dX2_casesLevel_0 ?_
  refine q_lstore_n (pc := 1) dX2_casesLevel_1 (Nat.le_of_ble_eq_true rfl) ?_
  refine q_iconst (pc := 2) dX2_casesLevel_2 ?_
  refine q_istore (pc := 3) dX2_casesLevel_3 (Nat.le_of_ble_eq_true rfl) ?_
  exact x_cases_l hs0 hR h1 hp (2 ^ (f 5).toNat) 0 σ (by omega) Fr.rf
theorem gcd_step {a b t : Nat} (hb : b ≤ a) (hz : b ≠ 0) (h : a * b < 2 ^ (t + 1)) : b * (a % b) < 2 ^ t ∧ a % b ≤ b := by
  have h1 := Nat.mod_lt a (show b > 0 by omega)
  refine ⟨?_, by omega⟩
  have h2 : a % b + b ≤ a := by
    have := Nat.div_add_mod a b
    have h3 : 1 ≤ a / b := Nat.div_pos hb (by omega)
    have h4 : b * 1 ≤ b * (a / b) := Nat.mul_le_mul_left b h3
    omega
  have h5 : b * (2 * (a % b)) ≤ b * a := Nat.mul_le_mul_left b (by omega)
  rw [Nat.pow_succ, Nat.mul_comm a b] at h
  have h6 : b * (2 * (a % b)) = 2 * (b * (a % b)) := by rw [Nat.mul_left_comm]
  omega
theorem x_gcd_l : ∀ (t k a b : Nat), k + t ≤ 99 → a * b < 2 ^ t → b ≤ a → a ≤ 10000000 → qE G mX7_greatestDivisor d 3 [(4, vi k), (0, vl a), (2, vl b)] [] σ (rl fun r σ1 => (Nat.gcd b a : Int) = r ∧ σ = σ1) := by
  intro t
  induction t with
  | zero =>
    intro k a b hk h hb ha
    have hz : b = 0 := by
      rcases Nat.eq_zero_or_pos b with q | q
      · exact q
      · have := Nat.mul_pos (show 0 < a by omega) q
        omega
    subst hz
    have hc := @qcmp_gt ((0 : Nat) : Int) 0
    have hc2 := @qcmp_lt ((0 : Nat) : Int) 0
    have hc3 := qcmp_in ((0 : Nat) : Int) 0
    refine q_iload (pc := 3) dX7_greatestDivisor_3 rfl ?_
    refine q_bipush (pc := 5) dX7_greatestDivisor_5 (by decide +kernel) ?_
    refine q_icmpge (pc := 7) (tgt := 32) dX7_greatestDivisor_7 (by decide) (by omega) (by omega) (fun h => absurd h (by omega)) (fun h7 => ?_)
    refine q_lload_n (pc := 10) dX7_greatestDivisor_10 rfl ?_
    refine q_lconst0 (pc := 11) dX7_greatestDivisor_11 ?_
    refine q_lcmp (pc := 12) dX7_greatestDivisor_12 (by omega) (by omega) ?_
    refine q_ifeq (pc := 13) (tgt := 32) dX7_greatestDivisor_13 (by decide) (by omega) (fun h13 => ?_) (fun h => absurd h (by omega))
    refine q_lload_n (pc := 32) dX7_greatestDivisor_32 rfl ?_
    refine q_rl (pc := 33) dX7_greatestDivisor_33 rfl ?_
    exact ⟨by rw [Nat.gcd_zero_left], rfl⟩
  | succ t ih =>
    intro k a b hk h hb ha
    have hc := @qcmp_gt (b : Int) 0
    have hc2 := @qcmp_lt (b : Int) 0
    have hc3 := qcmp_in (b : Int) 0
    refine q_iload (pc := 3) dX7_greatestDivisor_3 rfl ?_
    refine q_bipush (pc := 5) dX7_greatestDivisor_5 (by decide +kernel) ?_
    refine q_icmpge (pc := 7) (tgt := 32) dX7_greatestDivisor_7 (by decide) (by omega) (by omega) (fun h => absurd h (by omega)) (fun h7 => ?_)
    refine q_lload_n (pc := 10) dX7_greatestDivisor_10 rfl ?_
    refine q_lconst0 (pc := 11) dX7_greatestDivisor_11 ?_
    refine q_lcmp (pc := 12) dX7_greatestDivisor_12 (by omega) (by omega) ?_
    refine q_ifeq (pc := 13) (tgt := 32) dX7_greatestDivisor_13 (by decide) (by omega) (fun h13 => ?_) (fun h13 => ?_)
    · refine q_lload_n (pc := 32) dX7_greatestDivisor_32 rfl ?_
      refine q_rl (pc := 33) dX7_greatestDivisor_33 rfl ?_
      have hz : b = 0 := by omega
      subst hz
      exact ⟨by rw [Nat.gcd_zero_left], rfl⟩
    · refine q_lload_n (pc := 16) dX7_greatestDivisor_16 rfl ?_
      refine q_lload_n (pc := 17) dX7_greatestDivisor_17 rfl ?_
      refine q_lrem (pc := 18) dX7_greatestDivisor_18 (by omega) ?_
      refine q_lstore (pc := 19) dX7_greatestDivisor_19 (Nat.le_of_ble_eq_true rfl) ?_
      refine q_lload_n (pc := 21) dX7_greatestDivisor_21 rfl ?_
      refine q_lstore_n (pc := 22) dX7_greatestDivisor_22 (Nat.le_of_ble_eq_true rfl) ?_
      refine q_lload (pc := 23) dX7_greatestDivisor_23 rfl ?_
      refine q_lstore_n (pc := 25) dX7_greatestDivisor_25 (Nat.le_of_ble_eq_true rfl) ?_
      refine q_iinc (pc := 26) dX7_greatestDivisor_26 rfl (Nat.le_of_ble_eq_true rfl) ?_
      refine q_goto (pc := 29) (tgt := 3) dX7_greatestDivisor_29 (by decide) ?_
      have hz : b ≠ 0 := by
        intro z
        subst z
        omega
      have st := gcd_step hb hz h
      have q := ih (k + 1) b (a % b) (by omega) st.1 st.2 (by omega)
      rw [← Nat.gcd_rec b a] at q
      rw [show (a : Int) % (b : Int) = ((a % b : Nat) : Int) from (Int.natCast_emod a b).symm]
      exact q_locs _ [0, 2, 1] rfl q
theorem x_gcd {a b : Nat} (hb : b ≤ a) (ha : a ≤ 10000000) : qE G mX7_greatestDivisor d 0 [(0, vl a), (2, vl b)] [] σ (rl fun r σ1 => (Nat.gcd b a : Int) = r ∧ σ = σ1) := by
  refine q_iconst (pc := 0) dX7_greatestDivisor_0 ?_
  refine q_istore (pc := 1) dX7_greatestDivisor_1 (Nat.le_of_ble_eq_true rfl) ?_
  exact x_gcd_l 47 0 a b (by omega) (by
    have h1 : a * b ≤ 10000000 * 10000000 := Nat.mul_le_mul ha (by omega)
    have h2 : (10000000 * 10000000 : Nat) < 2 ^ 47 := by decide
    omega) hb ha
theorem x_wrong {p w : Int} (hC : CR σ A) (hV : AV A) (hp : -2147483648 ≤ p ∧ p ≤ 2147483647) (hw : -2147483648 ≤ w ∧ w ≤ 2147483647) : qE G mX7_wrong (d + 6) 0 [(0, vr 0), (1, vi p), (2, vi w)] [] σ (rl (pC σ (s_wrong A p w))) := by
  have hR := hV.1
  have h01 := hR.f0
  have e0 := hC.1.1.1
  have h5 := hR.de
  refine q_aload_n (pc := 0) dX7_wrong_0 rfl ?_
  refine q_getR (pc := 1) dX7_wrong_1 fX7_26 rfl rfl ?_
  refine q_gI (pc := 4) 0 dX7_wrong_4 fX7_141 rfl rfl rfl ?_
  refine q_ifne (pc := 7) (tgt := 14) dX7_wrong_7 (by decide) (by omega) (fun h7 => ?_) (fun h7 => ?_)
  · refine q_iload_n (pc := 14) dX7_wrong_14 rfl ?_
    refine q_iconst (pc := 15) dX7_wrong_15 ?_
    refine q_bipush (pc := 16) dX7_wrong_16 (by decide +kernel) ?_
    refine q_S3i (pc := 18) dX7_wrong_18 vX7_62 (Nat.le_of_ble_eq_true rfl) (Nat.le_of_ble_eq_true rfl) (t_X7_isWithin (by omega) (by omega) (by omega)) (fun r1 σ1 hc1 => ?_)
    obtain ⟨rfl, rfl⟩ := hc1
    refine q_ifeqb (pc := 21) (tgt := 33) dX7_wrong_21 (by decide) (fun h21 => ?_) (fun h21 => ?_)
    · refine q_ldc2 (pc := 33) (n := -1000001) kX7_260 dX7_wrong_33 ?_
      refine q_rl (pc := 36) dX7_wrong_36 rfl ?_
      refine pC.q0 hC ?_
      repeat' (first | rw [if_neg (by omega)] | rw [if_pos (by omega)])
    · refine q_iload_n (pc := 24) dX7_wrong_24 rfl ?_
      refine q_iconst (pc := 25) dX7_wrong_25 ?_
      refine q_iconst (pc := 26) dX7_wrong_26 ?_
      refine q_S3i (pc := 27) dX7_wrong_27 vX7_62 (Nat.le_of_ble_eq_true rfl) (Nat.le_of_ble_eq_true rfl) (t_X7_isWithin (by omega) (by omega) (by omega)) (fun r2 σ2 hc2 => ?_)
      obtain ⟨rfl, rfl⟩ := hc2
      refine q_ifneb (pc := 30) (tgt := 37) dX7_wrong_30 (by decide) (fun h30 => ?_) (fun h30 => ?_)
      · refine q_aload_n (pc := 37) dX7_wrong_37 rfl ?_
        refine q_getR (pc := 38) dX7_wrong_38 fX7_47 rfl rfl ?_
        refine q_aload_n (pc := 41) dX7_wrong_41 rfl ?_
        refine q_getR (pc := 42) dX7_wrong_42 fX7_26 rfl rfl ?_
        refine q_iload_n (pc := 45) dX7_wrong_45 rfl ?_
        refine q_V2l (pc := 46) dX7_wrong_46 vX7_262 rfl rfl (Nat.le_of_ble_eq_true rfl) (Nat.le_of_ble_eq_true rfl) (x_cases hC.1 hR (by omega) (by omega)) (fun r3 σ3 hc3 => ?_)
        obtain ⟨rfl, hF3⟩ := hc3
        refine q_lstore_n (pc := 49) dX7_wrong_49 (Nat.le_of_ble_eq_true rfl) ?_
        refine q_aload_n (pc := 50) dX7_wrong_50 rfl ?_
        refine q_getR (pc := 51) dX7_wrong_51 fX7_47 rfl rfl ?_
        refine q_aload_n (pc := 54) dX7_wrong_54 rfl ?_
        refine q_getR (pc := 55) dX7_wrong_55 fX7_26 rfl rfl ?_
        refine q_V1l (pc := 58) dX7_wrong_58 vX7_266 rfl rfl (Nat.le_of_ble_eq_true rfl) (Nat.le_of_ble_eq_true rfl) (x_all (hC.1.fr hF3 (fun j a b => by simp; omega)) hR) (fun r4 σ4 hc4 => ?_)
        obtain ⟨rfl, rfl⟩ := hc4
        have hA : 0 ≤ wA A.1 p ∧ wA A.1 p ≤ wB A.1 p := sA_in (p := p) (by omega) A.1 (A.1 5).toNat (2 ^ (A.1 5).toNat)
        have hB : wB A.1 p ≤ 10000000 := sB_in (p := p) (by omega) A.1 (m := (A.1 5).toNat) (by omega) (Nat.le_refl _)
        have hB1 : 1 ≤ wB A.1 p := sB_pos (p := p) A.1 (m := (A.1 5).toNat) (by omega)
        have eA : ((wA A.1 p).toNat : Int) = wA A.1 p := by omega
        have eB : ((wB A.1 p).toNat : Int) = wB A.1 p := by omega
        have hg := Nat.gcd_pos_of_pos_left (wA A.1 p).toNat (show 0 < (wB A.1 p).toNat by omega)
        have hg2 := Nat.gcd_le_left (wA A.1 p).toNat (show 0 < (wB A.1 p).toNat by omega)
        rw [show (10 : Int) ^ wC A.1 (A.1 5).toNat = wB A.1 p from (sB_all _ (by omega)).symm]
        rw [← eA, ← eB]
        refine q_lstore (pc := 61) dX7_wrong_61 (Nat.le_of_ble_eq_true rfl) ?_
        refine q_lload (pc := 63) dX7_wrong_63 rfl ?_
        refine q_lload_n (pc := 65) dX7_wrong_65 rfl ?_
        refine q_S2l (pc := 66) dX7_wrong_66 vX7_270 (Nat.le_of_ble_eq_true rfl) (Nat.le_of_ble_eq_true rfl) (x_gcd (by omega) (by omega)) (fun r5 σ5 hc5 => ?_)
        obtain ⟨rfl, rfl⟩ := hc5
        rw [Nat.gcd_comm]
        have hc := @qcmp_lt ((Nat.gcd (wB A.1 p).toNat (wA A.1 p).toNat : Nat) : Int) 1
        have hc3 := qcmp_in ((Nat.gcd (wB A.1 p).toNat (wA A.1 p).toNat : Nat) : Int) 1
        refine q_lstore (pc := 69) dX7_wrong_69 (Nat.le_of_ble_eq_true rfl) ?_
        refine q_lload (pc := 71) dX7_wrong_71 rfl ?_
        refine q_lconst1 (pc := 73) dX7_wrong_73 ?_
        refine q_lcmp (pc := 74) dX7_wrong_74 (by omega) (by omega) ?_
        refine q_ifge (pc := 75) (tgt := 84) dX7_wrong_75 (by decide) (by omega) (fun h75 => ?_) (fun h => absurd h (by omega))
        refine q_iload_n (pc := 84) dX7_wrong_84 rfl ?_
        refine q_ifne (pc := 85) (tgt := 92) dX7_wrong_85 (by decide) (by omega) (fun h85 => ?_) (fun h85 => ?_)
        · refine q_lload (pc := 92) dX7_wrong_92 rfl ?_
          refine q_lload (pc := 94) dX7_wrong_94 rfl ?_
          refine q_ldiv (pc := 96) dX7_wrong_96 (by omega) ?_
          refine q_rl (pc := 97) dX7_wrong_97 rfl ?_
          refine pC.q hC hF3 (scr_in (by decide)) ?_
          rw [if_pos (by omega), if_pos (by omega)]
          first
          | (rw [if_pos (by omega), eA]; done)
          | (rw [if_neg (by omega), eB]; done)
        · refine q_lload_n (pc := 88) dX7_wrong_88 rfl ?_
          refine q_goto (pc := 89) (tgt := 94) dX7_wrong_89 (by decide) ?_
          refine q_lload (pc := 94) dX7_wrong_94 rfl ?_
          refine q_ldiv (pc := 96) dX7_wrong_96 (by omega) ?_
          refine q_rl (pc := 97) dX7_wrong_97 rfl ?_
          refine pC.q hC hF3 (scr_in (by decide)) ?_
          rw [if_pos (by omega), if_pos (by omega)]
          first
          | (rw [if_pos (by omega), eA]; done)
          | (rw [if_neg (by omega), eB]; done)
      · refine q_ldc2 (pc := 33) (n := -1000001) kX7_260 dX7_wrong_33 ?_
        refine q_rl (pc := 36) dX7_wrong_36 rfl ?_
        refine pC.q0 hC ?_
        repeat' (first | rw [if_neg (by omega)] | rw [if_pos (by omega)])
  · refine q_ldc2 (pc := 10) (n := -1000002) kX7_258 dX7_wrong_10 ?_
    refine q_rl (pc := 13) dX7_wrong_13 rfl ?_
    refine pC.q0 hC ?_
    repeat' (first | rw [if_neg (by omega)] | rw [if_pos (by omega)])
end T2
