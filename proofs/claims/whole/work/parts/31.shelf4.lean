/-! ===== the reference: rows, bytes, images, kinds ===== -/
section T8
variable {G : qGl} {d : Nat} {σ : qM} {A : qA}
theorem MR.st (h : MR σ A) {s : Int} : MR (up σ 82 1 s) (aS A s) := by
  have e : ∀ j : Nat, j ≠ 82 → up σ 82 1 s j = σ j := fun j hj => up_ne hj
  obtain ⟨h1, h2, h3, h4, h5, h6, h7, h8⟩ := h
  unfold MR RwR AcM ShM
  rw [e 83 (by omega), e 84 (by omega), e 85 (by omega), e 86 (by omega), e 89 (by omega), e 90 (by omega), e 93 (by omega), e 94 (by omega), e 95 (by omega)]
  simp only [up_same, show ¬ (9 : Int) = 1 by omega, show ¬ (11 : Int) = 1 by omega, show ¬ (18 : Int) = 1 by omega, show ¬ (24 : Int) = 1 by omega, if_false, if_true]
  exact ⟨h1, h2, rfl, h4, h5, h6, h7, h8⟩
theorem MR.sh {σ1 : qM} {s : Int} {ln mn : Int → Int} {it : Int → Int → Int} (h : MR σ (aS A s)) (hF : Fr σ σ1 [83, 84, 85]) (hs : ShM σ1 ln mn it) : MR σ1 (aH A s (ln, mn, it)) := by
  have e : ∀ j : Nat, ¬ (83 ≤ j ∧ j ≤ 85) → σ1 j = σ j := fun j hj => hF j (by simp; omega)
  obtain ⟨h1, h2, h3, h4, h5, h6, h7, h8⟩ := h
  unfold MR RwR AcM
  rw [e 82 (by omega), e 86 (by omega), e 89 (by omega), e 90 (by omega), e 93 (by omega), e 94 (by omega), e 95 (by omega)]
  exact ⟨h1, h2, h3, h4, hs, h6, h7, h8⟩
theorem m_row_l {r l n : Int} {ln mn : Int → Int} {it : Int → Int → Int} (hr : 0 ≤ r ∧ r ≤ 7) (hn : n ≤ 40) (hS : ShM σ ln mn it) (hV : ShV ln mn it) : ∀ (m k : Nat) (σ' : qM), m + k = 40 → Fr (up (up σ 83 r l) 84 r n) σ' [85] → (∀ j, σ' 85 j = if 40 * r ≤ j ∧ j < 40 * r + k then 0 else σ 85 j) → qE G mX8_row d 65 [(4, vi k), (0, vr 82), (1, vi r), (2, vi l), (3, vi n)] [] σ' (ri fun x σ1 => n = x ∧ Fr σ σ1 [83, 84, 85] ∧ ShM σ1 (u1 ln r l) (u1 mn r n) (fun r' i => if r' = r then 0 else it r' i)) := by
  intro m
  induction m with
  | zero =>
    intro k σ' hk hF h
    refine q_iload (pc := 65) dX8_row_65 rfl ?_
    refine q_bipush (pc := 67) dX8_row_67 (by decide +kernel) ?_
    refine q_icmpge (pc := 69) (tgt := 91) dX8_row_69 (by decide) (by omega) (by omega) (fun h69 => ?_) (fun h => absurd h (by omega))
    refine q_iload_n (pc := 91) dX8_row_91 rfl ?_
    refine q_ri (pc := 92) dX8_row_92 rfl ?_
    have hF1 : Fr σ (up (up σ 83 r l) 84 r n) [83, 84] := Fr.tt (Fr.up (by simp)) (Fr.up (by simp))
    refine ⟨rfl, Fr.tr hF1 hF (fun j q => by simp at q ⊢; omega), fun q h0 h1 => ?_⟩
    obtain ⟨s1, s2, s3⟩ := hS q h0 h1
    rw [hF 83 (by simp), hF 84 (by simp), up_ne (by omega), up_same, up_same, up_ne (by omega), s1, s2]
    refine ⟨rfl, rfl, fun i a b => ?_⟩
    rw [h]
    show _ = if q = r then (0 : Int) else it q i
    by_cases c : q = r
    · rw [c, u1_eq] at b
      rw [if_pos (by omega), if_pos c]
    · rw [u1_ne c] at b
      have v := (hV q h0 h1).2.1
      rw [if_neg (by omega), if_neg c]
      exact s3 i a b
  | succ m ih =>
    intro k σ' hk hF h
    refine q_iload (pc := 65) dX8_row_65 rfl ?_
    refine q_bipush (pc := 67) dX8_row_67 (by decide +kernel) ?_
    refine q_icmpge (pc := 69) (tgt := 91) dX8_row_69 (by decide) (by omega) (by omega) (fun h => absurd h (by omega)) (fun h69 => ?_)
    refine q_aload_n (pc := 72) dX8_row_72 rfl ?_
    refine q_getR (pc := 73) dX8_row_73 fX8_16 rfl rfl ?_
    refine q_bipush (pc := 76) dX8_row_76 (by decide +kernel) ?_
    refine q_iload_n (pc := 78) dX8_row_78 rfl ?_
    refine q_imul (pc := 79) dX8_row_79 ?_
    refine q_iload (pc := 80) dX8_row_80 rfl ?_
    refine q_iadd (pc := 82) dX8_row_82 ?_
    refine q_iconst (pc := 83) dX8_row_83 ?_
    refine q_iast (pc := 84) dX8_row_84 rfl (by omega) ?_
    refine q_iinc (pc := 85) dX8_row_85 rfl (Nat.le_of_ble_eq_true rfl) ?_
    refine q_goto (pc := 88) (tgt := 65) dX8_row_88 (by decide) ?_
    have q := ih (k + 1) (up σ' 85 (40 * r + k) 0) (by omega) (hF.tt (Fr.up (by simp))) (fun j => ?_)
    · exact q_locs _ [0, 1, 2, 3, 4] rfl q
    · rw [up_same, h]
      by_cases c : j = 40 * r + k
      · rw [if_pos c, if_pos (by omega)]
      · rw [if_neg c]
        by_cases c2 : 40 * r ≤ j ∧ j < 40 * r + (k : Int)
        · rw [if_pos c2, if_pos (by omega)]
        · rw [if_neg c2, if_neg (by omega)]

theorem m_row {r l n : Int} (hM : MR σ A) (hV : AV A) (hr : -2147483648 ≤ r ∧ r ≤ 2147483647) (hl : -2147483648 ≤ l ∧ l ≤ 2147483647) (hn : -2147483648 ≤ n ∧ n ≤ 2147483647) : qE G mX8_row (d + 2) 0 [(0, vr 82), (1, vi r), (2, vi l), (3, vi n)] [] σ (ri (pM σ (s_row A r l n))) := by
  refine q_aload_n (pc := 0) dX8_row_0 rfl ?_
  refine q_iconst (pc := 1) dX8_row_1 ?_
  refine q_pI (pc := 2) 0 dX8_row_2 wX8_50 rfl rfl rfl ?_
  have hM := hM.fld (i := 0) (v := 0) (by decide)
  have hF0 : ∀ j, j < 82 → up σ 82 0 0 j = σ j := fun j hj => up_ne (by omega)
  generalize up σ 82 0 0 = τ at hM hF0 ⊢
  refine q_iload_n (pc := 5) dX8_row_5 rfl ?_
  refine q_S1i (pc := 6) dX8_row_6 vX8_64 (Nat.le_of_ble_eq_true rfl) (Nat.le_of_ble_eq_true rfl) (t_X8_isRow (by omega)) (fun r1 σ1 hc1 => ?_)
  obtain ⟨rfl, rfl⟩ := hc1
  refine q_ifeqb (pc := 9) (tgt := 30) dX8_row_9 (by decide) (fun h9 => ?_) (fun h9 => ?_)
  · refine q_ldc (pc := 30) (n := -1000001) kX8_70 dX8_row_30 ?_
    refine q_ri (pc := 32) dX8_row_32 rfl ?_
    first
    | (refine ⟨A, ?_, hF0, hM⟩
       first | unfold s_row | unfold s_set | unfold s_copy | unfold s_drop | unfold s_feed | unfold s_image | unfold s_restore | unfold s_as
       repeat' (first | rw [if_neg (by omega)] | rw [if_pos (by omega)] | rw [if_pos (by assumption)] | rw [if_neg (by assumption)])
       done)
    | (refine ⟨_, ?_, hF0, hM⟩
       first | unfold s_row | unfold s_set | unfold s_copy | unfold s_drop | unfold s_feed | unfold s_image | unfold s_restore | unfold s_as
       repeat' (first | rw [if_neg (by omega)] | rw [if_pos (by omega)] | rw [if_pos (by assumption)] | rw [if_neg (by assumption)])
       first | done | rfl)
    | (refine ⟨_, ?_, fun j hj => by rw [up_ne (by omega)]; exact hF0 j hj, hM.st⟩
       first | unfold s_row | unfold s_set | unfold s_copy | unfold s_drop | unfold s_feed | unfold s_image | unfold s_restore | unfold s_as
       repeat' (first | rw [if_neg (by omega)] | rw [if_pos (by omega)] | rw [if_pos (by assumption)] | rw [if_neg (by assumption)])
       first | done | rfl)
  · refine q_iload_n (pc := 12) dX8_row_12 rfl ?_
    refine q_i2l (pc := 13) dX8_row_13 (by omega) ?_
    refine q_lconst0 (pc := 14) dX8_row_14 ?_
    refine q_ldc2 (pc := 15) (n := 2) kX8_68 dX8_row_15 ?_
    refine q_S3i (pc := 18) dX8_row_18 vX8_60 (Nat.le_of_ble_eq_true rfl) (Nat.le_of_ble_eq_true rfl) (t_X8_in (by omega) (by omega) (by omega)) (fun r2 σ2 hc2 => ?_)
    obtain ⟨rfl, rfl⟩ := hc2
    refine q_ifeqb (pc := 21) (tgt := 30) dX8_row_21 (by decide) (fun h21 => ?_) (fun h21 => ?_)
    · refine q_ldc (pc := 30) (n := -1000001) kX8_70 dX8_row_30 ?_
      refine q_ri (pc := 32) dX8_row_32 rfl ?_
      first
      | (refine ⟨A, ?_, hF0, hM⟩
         first | unfold s_row | unfold s_set | unfold s_copy | unfold s_drop | unfold s_feed | unfold s_image | unfold s_restore | unfold s_as
         repeat' (first | rw [if_neg (by omega)] | rw [if_pos (by omega)] | rw [if_pos (by assumption)] | rw [if_neg (by assumption)])
         done)
      | (refine ⟨_, ?_, hF0, hM⟩
         first | unfold s_row | unfold s_set | unfold s_copy | unfold s_drop | unfold s_feed | unfold s_image | unfold s_restore | unfold s_as
         repeat' (first | rw [if_neg (by omega)] | rw [if_pos (by omega)] | rw [if_pos (by assumption)] | rw [if_neg (by assumption)])
         first | done | rfl)
      | (refine ⟨_, ?_, fun j hj => by rw [up_ne (by omega)]; exact hF0 j hj, hM.st⟩
         first | unfold s_row | unfold s_set | unfold s_copy | unfold s_drop | unfold s_feed | unfold s_image | unfold s_restore | unfold s_as
         repeat' (first | rw [if_neg (by omega)] | rw [if_pos (by omega)] | rw [if_pos (by assumption)] | rw [if_neg (by assumption)])
         first | done | rfl)
    · refine q_iload_n (pc := 24) dX8_row_24 rfl ?_
      refine q_bipush (pc := 25) dX8_row_25 (by decide +kernel) ?_
      refine q_icmple (pc := 27) (tgt := 33) dX8_row_27 (by decide) (by omega) (by omega) (fun h27 => ?_) (fun h27 => ?_)
      · refine q_aload_n (pc := 33) dX8_row_33 rfl ?_
        refine q_iconst (pc := 34) dX8_row_34 ?_
        refine q_pI (pc := 35) 1 dX8_row_35 wX8_54 rfl rfl rfl ?_
        have hM := hM.st (s := 0)
        have hF0 : ∀ j, j < 82 → up τ 82 1 0 j = σ j := fun j hj => by rw [up_ne (by omega)]; exact hF0 j hj
        generalize up τ 82 1 0 = τ at hM hF0 ⊢
        have hS : ShM τ A.2.2.2.2.1.1 A.2.2.2.2.1.2.1 A.2.2.2.2.1.2.2 := hM.2.2.2.2.1
        refine q_iload_n (pc := 38) dX8_row_38 rfl ?_
        refine q_ifge (pc := 39) (tgt := 48) dX8_row_39 (by decide) (by omega) (fun h39 => ?_) (fun h39 => ?_)
        · refine q_aload_n (pc := 48) dX8_row_48 rfl ?_
          refine q_getR (pc := 49) dX8_row_49 fX8_7 rfl rfl ?_
          refine q_iload_n (pc := 52) dX8_row_52 rfl ?_
          refine q_iload_n (pc := 53) dX8_row_53 rfl ?_
          refine q_iast (pc := 54) dX8_row_54 rfl (by omega) ?_
          refine q_aload_n (pc := 55) dX8_row_55 rfl ?_
          refine q_getR (pc := 56) dX8_row_56 fX8_13 rfl rfl ?_
          refine q_iload_n (pc := 59) dX8_row_59 rfl ?_
          refine q_iload_n (pc := 60) dX8_row_60 rfl ?_
          refine q_iast (pc := 61) dX8_row_61 rfl (by omega) ?_
          refine q_iconst (pc := 62) dX8_row_62 ?_
          refine q_istore (pc := 63) dX8_row_63 (Nat.le_of_ble_eq_true rfl) ?_
          have e : s_row A r l n = (n, aH A 0 (u1 A.2.2.2.2.1.1 r l, u1 A.2.2.2.2.1.2.1 r n, fun r' i => if r' = r then 0 else A.2.2.2.2.1.2.2 r' i)) := by
            unfold s_row
            rw [if_pos (by omega), if_neg (by omega)]
          rw [e]
          refine q_mono (fun v σ' h => ?_) (m_row_l (by omega) (by omega) hS hV.2.2.2.2.1 40 0 _ rfl Fr.rf (fun j => by rw [if_neg (by omega), up_ne (by omega), up_ne (by omega)]))
          obtain ⟨x, h1, h2, h3, h4⟩ := h
          exact ⟨x, h1, pM.go (fun j hj => by rw [h3.m (by decide) j hj, hF0 j hj]) (hM.sh h3 h4) h2⟩
        · refine q_aload_n (pc := 42) dX8_row_42 rfl ?_
          refine q_iconst (pc := 43) dX8_row_43 ?_
          refine q_V1i (pc := 44) dX8_row_44 vX8_71 rfl rfl (Nat.le_of_ble_eq_true rfl) (Nat.le_of_ble_eq_true rfl) (t_X8_finding) (fun r3 σ3 hc3 => ?_)
          obtain ⟨rfl, rfl⟩ := hc3
          refine q_ri (pc := 47) dX8_row_47 rfl ?_
          first
          | (refine ⟨A, ?_, hF0, hM⟩
             first | unfold s_row | unfold s_set | unfold s_copy | unfold s_drop | unfold s_feed | unfold s_image | unfold s_restore | unfold s_as
             repeat' (first | rw [if_neg (by omega)] | rw [if_pos (by omega)] | rw [if_pos (by assumption)] | rw [if_neg (by assumption)])
             done)
          | (refine ⟨_, ?_, hF0, hM⟩
             first | unfold s_row | unfold s_set | unfold s_copy | unfold s_drop | unfold s_feed | unfold s_image | unfold s_restore | unfold s_as
             repeat' (first | rw [if_neg (by omega)] | rw [if_pos (by omega)] | rw [if_pos (by assumption)] | rw [if_neg (by assumption)])
             first | done | rfl)
          | (refine ⟨_, ?_, fun j hj => by rw [up_ne (by omega)]; exact hF0 j hj, hM.st⟩
             first | unfold s_row | unfold s_set | unfold s_copy | unfold s_drop | unfold s_feed | unfold s_image | unfold s_restore | unfold s_as
             repeat' (first | rw [if_neg (by omega)] | rw [if_pos (by omega)] | rw [if_pos (by assumption)] | rw [if_neg (by assumption)])
             first | done | rfl)
      · refine q_ldc (pc := 30) (n := -1000001) kX8_70 dX8_row_30 ?_
        refine q_ri (pc := 32) dX8_row_32 rfl ?_
        first
        | (refine ⟨A, ?_, hF0, hM⟩
           first | unfold s_row | unfold s_set | unfold s_copy | unfold s_drop | unfold s_feed | unfold s_image | unfold s_restore | unfold s_as
           repeat' (first | rw [if_neg (by omega)] | rw [if_pos (by omega)] | rw [if_pos (by assumption)] | rw [if_neg (by assumption)])
           done)
        | (refine ⟨_, ?_, hF0, hM⟩
           first | unfold s_row | unfold s_set | unfold s_copy | unfold s_drop | unfold s_feed | unfold s_image | unfold s_restore | unfold s_as
           repeat' (first | rw [if_neg (by omega)] | rw [if_pos (by omega)] | rw [if_pos (by assumption)] | rw [if_neg (by assumption)])
           first | done | rfl)
        | (refine ⟨_, ?_, fun j hj => by rw [up_ne (by omega)]; exact hF0 j hj, hM.st⟩
           first | unfold s_row | unfold s_set | unfold s_copy | unfold s_drop | unfold s_feed | unfold s_image | unfold s_restore | unfold s_as
           repeat' (first | rw [if_neg (by omega)] | rw [if_pos (by omega)] | rw [if_pos (by assumption)] | rw [if_neg (by assumption)])
           first | done | rfl)
theorem ShM.set {ln mn : Int → Int} {it : Int → Int → Int} {r i v : Int} (hS : ShM σ ln mn it) (hV : ShV ln mn it) (h0 : 0 ≤ r ∧ r ≤ 7) (hi : 0 ≤ i ∧ i < mn r) : ShM (up σ 85 (40 * r + i) v) ln mn (itSet it r i v) := by
  intro q a b
  obtain ⟨s1, s2, s3⟩ := hS q a b
  have w := (hV q a b).2.1
  have w' := (hV r h0.1 h0.2).2.1
  rw [up_ne (by omega), up_ne (by omega)]
  refine ⟨s1, s2, fun k c e => ?_⟩
  rw [up_same]
  unfold itSet
  by_cases z : q = r ∧ k = i
  · rw [if_pos (by omega), if_pos z]
  · rw [if_neg (by omega), if_neg z]; exact s3 k c e
theorem m_set {r i v : Int} (hM : MR σ A) (hV : AV A) (hr : -2147483648 ≤ r ∧ r ≤ 2147483647) (hi : -2147483648 ≤ i ∧ i ≤ 2147483647) (hv : -2147483648 ≤ v ∧ v ≤ 2147483647) : qE G mX8_set (d + 2) 0 [(0, vr 82), (1, vi r), (2, vi i), (3, vi v)] [] σ (ri (pM σ (s_set A r i v))) := by
  refine q_aload_n (pc := 0) dX8_set_0 rfl ?_
  refine q_iconst (pc := 1) dX8_set_1 ?_
  refine q_pI (pc := 2) 0 dX8_set_2 wX8_50 rfl rfl rfl ?_
  have hM := hM.fld (i := 0) (v := 0) (by decide)
  have hF0 : ∀ j, j < 82 → up σ 82 0 0 j = σ j := fun j hj => up_ne (by omega)
  generalize up σ 82 0 0 = τ at hM hF0 ⊢
  refine q_iload_n (pc := 5) dX8_set_5 rfl ?_
  refine q_S1i (pc := 6) dX8_set_6 vX8_64 (Nat.le_of_ble_eq_true rfl) (Nat.le_of_ble_eq_true rfl) (t_X8_isRow (by omega)) (fun r1 σ1 hc1 => ?_)
  obtain ⟨rfl, rfl⟩ := hc1
  refine q_ifneb (pc := 9) (tgt := 15) dX8_set_9 (by decide) (fun h9 => ?_) (fun h9 => ?_)
  · refine q_aload_n (pc := 15) dX8_set_15 rfl ?_
    refine q_iconst (pc := 16) dX8_set_16 ?_
    refine q_pI (pc := 17) 1 dX8_set_17 wX8_54 rfl rfl rfl ?_
    have hM := hM.st (s := 0)
    have hF0 : ∀ j, j < 82 → up τ 82 1 0 j = σ j := fun j hj => by rw [up_ne (by omega)]; exact hF0 j hj
    generalize up τ 82 1 0 = τ at hM hF0 ⊢
    have hS : ShM τ A.2.2.2.2.1.1 A.2.2.2.2.1.2.1 A.2.2.2.2.1.2.2 := hM.2.2.2.2.1
    refine q_aload_n (pc := 20) dX8_set_20 rfl ?_
    refine q_getR (pc := 21) dX8_set_21 fX8_7 rfl rfl ?_
    have hs := hS r (by omega) (by omega)
    have hs1 := hs.1
    have hs2 := hs.2.1
    have hw := hV.2.2.2.2.1 r (by omega) (by omega)
    have hw1 := hw.1
    have hw2 := hw.2.1
    refine q_iload_n (pc := 24) dX8_set_24 rfl ?_
    refine q_iald (pc := 25) dX8_set_25 rfl (by omega) ?_
    refine q_ifge (pc := 26) (tgt := 35) dX8_set_26 (by decide) (by omega) (fun h26 => ?_) (fun h26 => ?_)
    · refine q_iload_n (pc := 35) dX8_set_35 rfl ?_
      refine q_i2l (pc := 36) dX8_set_36 (by omega) ?_
      refine q_lconst0 (pc := 37) dX8_set_37 ?_
      refine q_aload_n (pc := 38) dX8_set_38 rfl ?_
      refine q_getR (pc := 39) dX8_set_39 fX8_13 rfl rfl ?_
      refine q_iload_n (pc := 42) dX8_set_42 rfl ?_
      refine q_iald (pc := 43) dX8_set_43 rfl (by omega) ?_
      refine q_iconst (pc := 44) dX8_set_44 ?_
      refine q_isub (pc := 45) dX8_set_45 ?_
      refine q_i2l (pc := 46) dX8_set_46 (by omega) ?_
      refine q_S3i (pc := 47) dX8_set_47 vX8_60 (Nat.le_of_ble_eq_true rfl) (Nat.le_of_ble_eq_true rfl) (t_X8_in (by omega) (by omega) (by omega)) (fun r2 σ2 hc2 => ?_)
      obtain ⟨rfl, rfl⟩ := hc2
      refine q_ifneb (pc := 50) (tgt := 59) dX8_set_50 (by decide) (fun h50 => ?_) (fun h50 => ?_)
      · refine q_aload_n (pc := 59) dX8_set_59 rfl ?_
        refine q_getR (pc := 60) dX8_set_60 fX8_16 rfl rfl ?_
        refine q_bipush (pc := 63) dX8_set_63 (by decide +kernel) ?_
        refine q_iload_n (pc := 65) dX8_set_65 rfl ?_
        refine q_imul (pc := 66) dX8_set_66 ?_
        refine q_iload_n (pc := 67) dX8_set_67 rfl ?_
        refine q_iadd (pc := 68) dX8_set_68 ?_
        refine q_aload_n (pc := 69) dX8_set_69 rfl ?_
        refine q_getR (pc := 70) dX8_set_70 fX8_7 rfl rfl ?_
        refine q_iload_n (pc := 73) dX8_set_73 rfl ?_
        refine q_iald (pc := 74) dX8_set_74 rfl (by omega) ?_
        refine q_ifne (pc := 75) (tgt := 83) dX8_set_75 (by decide) (by omega) (fun h75 => ?_) (fun h75 => ?_)
        · refine q_aload_n (pc := 83) dX8_set_83 rfl ?_
          refine q_getR (pc := 84) dX8_set_84 fX8_7 rfl rfl ?_
          refine q_iload_n (pc := 87) dX8_set_87 rfl ?_
          refine q_iald (pc := 88) dX8_set_88 rfl (by omega) ?_
          refine q_iconst (pc := 89) dX8_set_89 ?_
          refine q_icmpne (pc := 90) (tgt := 98) dX8_set_90 (by decide) (by omega) (by omega) (fun h90 => ?_) (fun h90 => ?_)
          · refine q_iload_n (pc := 98) dX8_set_98 rfl ?_
            refine q_iast (pc := 99) dX8_set_99 rfl (by omega) ?_
            refine q_aload_n (pc := 100) dX8_set_100 rfl ?_
            refine q_getR (pc := 101) dX8_set_101 fX8_16 rfl rfl ?_
            refine q_bipush (pc := 104) dX8_set_104 (by decide +kernel) ?_
            refine q_iload_n (pc := 106) dX8_set_106 rfl ?_
            refine q_imul (pc := 107) dX8_set_107 ?_
            refine q_iload_n (pc := 108) dX8_set_108 rfl ?_
            refine q_iadd (pc := 109) dX8_set_109 ?_
            refine q_iald (pc := 110) dX8_set_110 rfl (by omega) ?_
            refine q_ri (pc := 111) dX8_set_111 rfl ?_
            first
            | (have e2 : mNar (A.2.2.2.2.1.1 r) v = v := by
                 unfold mNar
                 rw [if_neg (by omega), if_neg (by omega)]
               (rw [show s_set A r i v = (mNar (A.2.2.2.2.1.1 r) v, aH A 0 (A.2.2.2.2.1.1, A.2.2.2.2.1.2.1, itSet A.2.2.2.2.1.2.2 r i (mNar (A.2.2.2.2.1.1 r) v))) by
                  unfold s_set
                  rw [if_pos (by omega), if_neg (by omega), if_pos (by omega)], e2])
               exact pM.go (fun j hj => by rw [up_ne (by omega)]; exact hF0 j hj) (hM.sh (Fr.up (by simp)) (hS.set hV.2.2.2.2.1 (by omega) (by omega))) (by rw [up_same, if_pos rfl]))
            | (have e2 : mNar (A.2.2.2.2.1.1 r) v = qi2s v := by
                 unfold mNar
                 rw [if_neg (by omega), if_pos (by omega)]
               (rw [show s_set A r i v = (mNar (A.2.2.2.2.1.1 r) v, aH A 0 (A.2.2.2.2.1.1, A.2.2.2.2.1.2.1, itSet A.2.2.2.2.1.2.2 r i (mNar (A.2.2.2.2.1.1 r) v))) by
                  unfold s_set
                  rw [if_pos (by omega), if_neg (by omega), if_pos (by omega)], e2])
               exact pM.go (fun j hj => by rw [up_ne (by omega)]; exact hF0 j hj) (hM.sh (Fr.up (by simp)) (hS.set hV.2.2.2.2.1 (by omega) (by omega))) (by rw [up_same, if_pos rfl]))
            | (have e2 : mNar (A.2.2.2.2.1.1 r) v = qi2b v := by
                 unfold mNar
                 rw [if_pos (by omega)]
               (rw [show s_set A r i v = (mNar (A.2.2.2.2.1.1 r) v, aH A 0 (A.2.2.2.2.1.1, A.2.2.2.2.1.2.1, itSet A.2.2.2.2.1.2.2 r i (mNar (A.2.2.2.2.1.1 r) v))) by
                  unfold s_set
                  rw [if_pos (by omega), if_neg (by omega), if_pos (by omega)], e2])
               exact pM.go (fun j hj => by rw [up_ne (by omega)]; exact hF0 j hj) (hM.sh (Fr.up (by simp)) (hS.set hV.2.2.2.2.1 (by omega) (by omega))) (by rw [up_same, if_pos rfl]))
          · refine q_iload_n (pc := 93) dX8_set_93 rfl ?_
            refine q_i2s (pc := 94) dX8_set_94 ?_
            refine q_goto (pc := 95) (tgt := 99) dX8_set_95 (by decide) ?_
            refine q_iast (pc := 99) dX8_set_99 rfl (by omega) ?_
            refine q_aload_n (pc := 100) dX8_set_100 rfl ?_
            refine q_getR (pc := 101) dX8_set_101 fX8_16 rfl rfl ?_
            refine q_bipush (pc := 104) dX8_set_104 (by decide +kernel) ?_
            refine q_iload_n (pc := 106) dX8_set_106 rfl ?_
            refine q_imul (pc := 107) dX8_set_107 ?_
            refine q_iload_n (pc := 108) dX8_set_108 rfl ?_
            refine q_iadd (pc := 109) dX8_set_109 ?_
            refine q_iald (pc := 110) dX8_set_110 rfl (by omega) ?_
            refine q_ri (pc := 111) dX8_set_111 rfl ?_
            first
            | (have e2 : mNar (A.2.2.2.2.1.1 r) v = v := by
                 unfold mNar
                 rw [if_neg (by omega), if_neg (by omega)]
               (rw [show s_set A r i v = (mNar (A.2.2.2.2.1.1 r) v, aH A 0 (A.2.2.2.2.1.1, A.2.2.2.2.1.2.1, itSet A.2.2.2.2.1.2.2 r i (mNar (A.2.2.2.2.1.1 r) v))) by
                  unfold s_set
                  rw [if_pos (by omega), if_neg (by omega), if_pos (by omega)], e2])
               exact pM.go (fun j hj => by rw [up_ne (by omega)]; exact hF0 j hj) (hM.sh (Fr.up (by simp)) (hS.set hV.2.2.2.2.1 (by omega) (by omega))) (by rw [up_same, if_pos rfl]))
            | (have e2 : mNar (A.2.2.2.2.1.1 r) v = qi2s v := by
                 unfold mNar
                 rw [if_neg (by omega), if_pos (by omega)]
               (rw [show s_set A r i v = (mNar (A.2.2.2.2.1.1 r) v, aH A 0 (A.2.2.2.2.1.1, A.2.2.2.2.1.2.1, itSet A.2.2.2.2.1.2.2 r i (mNar (A.2.2.2.2.1.1 r) v))) by
                  unfold s_set
                  rw [if_pos (by omega), if_neg (by omega), if_pos (by omega)], e2])
               exact pM.go (fun j hj => by rw [up_ne (by omega)]; exact hF0 j hj) (hM.sh (Fr.up (by simp)) (hS.set hV.2.2.2.2.1 (by omega) (by omega))) (by rw [up_same, if_pos rfl]))
            | (have e2 : mNar (A.2.2.2.2.1.1 r) v = qi2b v := by
                 unfold mNar
                 rw [if_pos (by omega)]
               (rw [show s_set A r i v = (mNar (A.2.2.2.2.1.1 r) v, aH A 0 (A.2.2.2.2.1.1, A.2.2.2.2.1.2.1, itSet A.2.2.2.2.1.2.2 r i (mNar (A.2.2.2.2.1.1 r) v))) by
                  unfold s_set
                  rw [if_pos (by omega), if_neg (by omega), if_pos (by omega)], e2])
               exact pM.go (fun j hj => by rw [up_ne (by omega)]; exact hF0 j hj) (hM.sh (Fr.up (by simp)) (hS.set hV.2.2.2.2.1 (by omega) (by omega))) (by rw [up_same, if_pos rfl]))
        · refine q_iload_n (pc := 78) dX8_set_78 rfl ?_
          refine q_i2b (pc := 79) dX8_set_79 ?_
          refine q_goto (pc := 80) (tgt := 99) dX8_set_80 (by decide) ?_
          refine q_iast (pc := 99) dX8_set_99 rfl (by omega) ?_
          refine q_aload_n (pc := 100) dX8_set_100 rfl ?_
          refine q_getR (pc := 101) dX8_set_101 fX8_16 rfl rfl ?_
          refine q_bipush (pc := 104) dX8_set_104 (by decide +kernel) ?_
          refine q_iload_n (pc := 106) dX8_set_106 rfl ?_
          refine q_imul (pc := 107) dX8_set_107 ?_
          refine q_iload_n (pc := 108) dX8_set_108 rfl ?_
          refine q_iadd (pc := 109) dX8_set_109 ?_
          refine q_iald (pc := 110) dX8_set_110 rfl (by omega) ?_
          refine q_ri (pc := 111) dX8_set_111 rfl ?_
          first
          | (have e2 : mNar (A.2.2.2.2.1.1 r) v = v := by
               unfold mNar
               rw [if_neg (by omega), if_neg (by omega)]
             (rw [show s_set A r i v = (mNar (A.2.2.2.2.1.1 r) v, aH A 0 (A.2.2.2.2.1.1, A.2.2.2.2.1.2.1, itSet A.2.2.2.2.1.2.2 r i (mNar (A.2.2.2.2.1.1 r) v))) by
                unfold s_set
                rw [if_pos (by omega), if_neg (by omega), if_pos (by omega)], e2])
             exact pM.go (fun j hj => by rw [up_ne (by omega)]; exact hF0 j hj) (hM.sh (Fr.up (by simp)) (hS.set hV.2.2.2.2.1 (by omega) (by omega))) (by rw [up_same, if_pos rfl]))
          | (have e2 : mNar (A.2.2.2.2.1.1 r) v = qi2s v := by
               unfold mNar
               rw [if_neg (by omega), if_pos (by omega)]
             (rw [show s_set A r i v = (mNar (A.2.2.2.2.1.1 r) v, aH A 0 (A.2.2.2.2.1.1, A.2.2.2.2.1.2.1, itSet A.2.2.2.2.1.2.2 r i (mNar (A.2.2.2.2.1.1 r) v))) by
                unfold s_set
                rw [if_pos (by omega), if_neg (by omega), if_pos (by omega)], e2])
             exact pM.go (fun j hj => by rw [up_ne (by omega)]; exact hF0 j hj) (hM.sh (Fr.up (by simp)) (hS.set hV.2.2.2.2.1 (by omega) (by omega))) (by rw [up_same, if_pos rfl]))
          | (have e2 : mNar (A.2.2.2.2.1.1 r) v = qi2b v := by
               unfold mNar
               rw [if_pos (by omega)]
             (rw [show s_set A r i v = (mNar (A.2.2.2.2.1.1 r) v, aH A 0 (A.2.2.2.2.1.1, A.2.2.2.2.1.2.1, itSet A.2.2.2.2.1.2.2 r i (mNar (A.2.2.2.2.1.1 r) v))) by
                unfold s_set
                rw [if_pos (by omega), if_neg (by omega), if_pos (by omega)], e2])
             exact pM.go (fun j hj => by rw [up_ne (by omega)]; exact hF0 j hj) (hM.sh (Fr.up (by simp)) (hS.set hV.2.2.2.2.1 (by omega) (by omega))) (by rw [up_same, if_pos rfl]))
      · refine q_aload_n (pc := 53) dX8_set_53 rfl ?_
        refine q_iconst (pc := 54) dX8_set_54 ?_
        refine q_V1i (pc := 55) dX8_set_55 vX8_71 rfl rfl (Nat.le_of_ble_eq_true rfl) (Nat.le_of_ble_eq_true rfl) (t_X8_finding) (fun r3 σ3 hc3 => ?_)
        obtain ⟨rfl, rfl⟩ := hc3
        refine q_ri (pc := 58) dX8_set_58 rfl ?_
        first
        | (refine ⟨A, ?_, hF0, hM⟩
           first | unfold s_row | unfold s_set | unfold s_copy | unfold s_drop | unfold s_feed | unfold s_image | unfold s_restore | unfold s_as
           repeat' (first | rw [if_neg (by omega)] | rw [if_pos (by omega)] | rw [if_pos (by assumption)] | rw [if_neg (by assumption)])
           done)
        | (refine ⟨_, ?_, hF0, hM⟩
           first | unfold s_row | unfold s_set | unfold s_copy | unfold s_drop | unfold s_feed | unfold s_image | unfold s_restore | unfold s_as
           repeat' (first | rw [if_neg (by omega)] | rw [if_pos (by omega)] | rw [if_pos (by assumption)] | rw [if_neg (by assumption)])
           first | done | rfl)
        | (refine ⟨_, ?_, fun j hj => by rw [up_ne (by omega)]; exact hF0 j hj, hM.st⟩
           first | unfold s_row | unfold s_set | unfold s_copy | unfold s_drop | unfold s_feed | unfold s_image | unfold s_restore | unfold s_as
           repeat' (first | rw [if_neg (by omega)] | rw [if_pos (by omega)] | rw [if_pos (by assumption)] | rw [if_neg (by assumption)])
           first | done | rfl)
    · refine q_aload_n (pc := 29) dX8_set_29 rfl ?_
      refine q_iconst (pc := 30) dX8_set_30 ?_
      refine q_V1i (pc := 31) dX8_set_31 vX8_71 rfl rfl (Nat.le_of_ble_eq_true rfl) (Nat.le_of_ble_eq_true rfl) (t_X8_finding) (fun r4 σ4 hc4 => ?_)
      obtain ⟨rfl, rfl⟩ := hc4
      refine q_ri (pc := 34) dX8_set_34 rfl ?_
      first
      | (refine ⟨A, ?_, hF0, hM⟩
         first | unfold s_row | unfold s_set | unfold s_copy | unfold s_drop | unfold s_feed | unfold s_image | unfold s_restore | unfold s_as
         repeat' (first | rw [if_neg (by omega)] | rw [if_pos (by omega)] | rw [if_pos (by assumption)] | rw [if_neg (by assumption)])
         done)
      | (refine ⟨_, ?_, hF0, hM⟩
         first | unfold s_row | unfold s_set | unfold s_copy | unfold s_drop | unfold s_feed | unfold s_image | unfold s_restore | unfold s_as
         repeat' (first | rw [if_neg (by omega)] | rw [if_pos (by omega)] | rw [if_pos (by assumption)] | rw [if_neg (by assumption)])
         first | done | rfl)
      | (refine ⟨_, ?_, fun j hj => by rw [up_ne (by omega)]; exact hF0 j hj, hM.st⟩
         first | unfold s_row | unfold s_set | unfold s_copy | unfold s_drop | unfold s_feed | unfold s_image | unfold s_restore | unfold s_as
         repeat' (first | rw [if_neg (by omega)] | rw [if_pos (by omega)] | rw [if_pos (by assumption)] | rw [if_neg (by assumption)])
         first | done | rfl)
  · refine q_ldc (pc := 12) (n := -1000001) kX8_70 dX8_set_12 ?_
    refine q_ri (pc := 14) dX8_set_14 rfl ?_
    first
    | (refine ⟨A, ?_, hF0, hM⟩
       first | unfold s_row | unfold s_set | unfold s_copy | unfold s_drop | unfold s_feed | unfold s_image | unfold s_restore | unfold s_as
       repeat' (first | rw [if_neg (by omega)] | rw [if_pos (by omega)] | rw [if_pos (by assumption)] | rw [if_neg (by assumption)])
       done)
    | (refine ⟨_, ?_, hF0, hM⟩
       first | unfold s_row | unfold s_set | unfold s_copy | unfold s_drop | unfold s_feed | unfold s_image | unfold s_restore | unfold s_as
       repeat' (first | rw [if_neg (by omega)] | rw [if_pos (by omega)] | rw [if_pos (by assumption)] | rw [if_neg (by assumption)])
       first | done | rfl)
    | (refine ⟨_, ?_, fun j hj => by rw [up_ne (by omega)]; exact hF0 j hj, hM.st⟩
       first | unfold s_row | unfold s_set | unfold s_copy | unfold s_drop | unfold s_feed | unfold s_image | unfold s_restore | unfold s_as
       repeat' (first | rw [if_neg (by omega)] | rw [if_pos (by omega)] | rw [if_pos (by assumption)] | rw [if_neg (by assumption)])
       first | done | rfl)
theorem m_copy_l {a i b j n w : Int} {ln mn : Int → Int} {it : Int → Int → Int} (ha : 0 ≤ a ∧ a ≤ 7) (hb : 0 ≤ b ∧ b ≤ 7) (hi : 0 ≤ i ∧ 0 ≤ j ∧ 0 ≤ n ∧ i + n ≤ mn a ∧ j + n ≤ mn b) (hS : ShM σ ln mn it) (hV : ShV ln mn it) (hw : (w = 1 ∧ j ≤ i) ∨ (w = 0 ∧ i < j)) : ∀ (m k : Nat) (o : Int) (σ' : qM), (m : Int) + k = n → (w = 1 ∧ o = 0) ∨ (w = 0 ∧ o = n - k) → Fr σ σ' [85] → (∀ x, σ' 85 x = if 40 * b + j + o ≤ x ∧ x < 40 * b + j + o + k then σ 85 (40 * a + i + (x - (40 * b + j))) else σ 85 x) → qE G mX8_copy d 143 [(7, vi k), (6, vi w), (0, vr 82), (1, vi a), (2, vi i), (3, vi b), (4, vi j), (5, vi n)] [] σ' (ri fun x σ1 => n = x ∧ Fr σ σ1 [85] ∧ ShM σ1 ln mn (itMove it a i b j n)) := by
  have va := (hV a ha.1 ha.2).2.1
  have vb := (hV b hb.1 hb.2).2.1
  intro m
  induction m with
  | zero =>
    intro k o σ' hk ho hF h
    refine q_iload (pc := 143) dX8_copy_143 rfl ?_
    refine q_iload (pc := 145) dX8_copy_145 rfl ?_
    refine q_icmpge (pc := 147) (tgt := 204) dX8_copy_147 (by decide) (by omega) (by omega) (fun h147 => ?_) (fun h => absurd h (by omega))
    refine q_iload (pc := 204) dX8_copy_204 rfl ?_
    refine q_ri (pc := 206) dX8_copy_206 rfl ?_
    refine ⟨rfl, hF, fun q h0 h1 => ?_⟩
    obtain ⟨s1, s2, s3⟩ := hS q h0 h1
    have w' := (hV q h0 h1).2.1
    rw [hF 83 (by simp), hF 84 (by simp)]
    refine ⟨s1, s2, fun x c e => ?_⟩
    rw [h]
    unfold itMove
    by_cases z : q = b ∧ j ≤ x ∧ x < j + n
    · rw [if_pos (by omega), if_pos z, ← (hS a ha.1 ha.2).2.2 (i + (x - j)) (by omega) (by omega)]
      congr 1
      omega
    · rw [if_neg (by omega), if_neg z]; exact s3 x c e
  | succ m ih =>
    intro k o σ' hk ho hF h
    refine q_iload (pc := 143) dX8_copy_143 rfl ?_
    refine q_iload (pc := 145) dX8_copy_145 rfl ?_
    refine q_icmpge (pc := 147) (tgt := 204) dX8_copy_147 (by decide) (by omega) (by omega) (fun h => absurd h (by omega)) (fun h147 => ?_)
    refine q_iload (pc := 150) dX8_copy_150 rfl ?_
    refine q_ifeq (pc := 152) (tgt := 160) dX8_copy_152 (by decide) (by omega) (fun h152 => ?_) (fun h152 => ?_)
    · refine q_iload (pc := 160) dX8_copy_160 rfl ?_
      refine q_iconst (pc := 162) dX8_copy_162 ?_
      refine q_isub (pc := 163) dX8_copy_163 ?_
      refine q_iload (pc := 164) dX8_copy_164 rfl ?_
      refine q_isub (pc := 166) dX8_copy_166 ?_
      refine q_istore (pc := 167) dX8_copy_167 (Nat.le_of_ble_eq_true rfl) ?_
      refine q_aload_n (pc := 169) dX8_copy_169 rfl ?_
      refine q_getR (pc := 170) dX8_copy_170 fX8_16 rfl rfl ?_
      refine q_bipush (pc := 173) dX8_copy_173 (by decide +kernel) ?_
      refine q_iload_n (pc := 175) dX8_copy_175 rfl ?_
      refine q_imul (pc := 176) dX8_copy_176 ?_
      refine q_iload (pc := 177) dX8_copy_177 rfl ?_
      refine q_iadd (pc := 179) dX8_copy_179 ?_
      refine q_iload (pc := 180) dX8_copy_180 rfl ?_
      refine q_iadd (pc := 182) dX8_copy_182 ?_
      refine q_aload_n (pc := 183) dX8_copy_183 rfl ?_
      refine q_getR (pc := 184) dX8_copy_184 fX8_16 rfl rfl ?_
      refine q_bipush (pc := 187) dX8_copy_187 (by decide +kernel) ?_
      refine q_iload_n (pc := 189) dX8_copy_189 rfl ?_
      refine q_imul (pc := 190) dX8_copy_190 ?_
      refine q_iload_n (pc := 191) dX8_copy_191 rfl ?_
      refine q_iadd (pc := 192) dX8_copy_192 ?_
      refine q_iload (pc := 193) dX8_copy_193 rfl ?_
      refine q_iadd (pc := 195) dX8_copy_195 ?_
      refine q_iald (pc := 196) dX8_copy_196 rfl (by omega) ?_
      refine q_iast (pc := 197) dX8_copy_197 rfl (by omega) ?_
      refine q_iinc (pc := 198) dX8_copy_198 rfl (Nat.le_of_ble_eq_true rfl) ?_
      refine q_goto (pc := 201) (tgt := 143) dX8_copy_201 (by decide) ?_
      first
      | (have q := ih (k + 1) 0 (up σ' 85 (40 * b + j + k) (σ' 85 (40 * a + i + k))) (by omega) (Or.inl (by omega)) (hF.tt (Fr.up (by simp))) (fun x => by
           rw [up_same, h, h]
           by_cases c : x = 40 * b + j + k
           · rw [if_pos c, if_neg (by omega), if_pos (by omega), c]
             congr 1
             omega
           · rw [if_neg c]
             by_cases c2 : 40 * b + j + o ≤ x ∧ x < 40 * b + j + o + k
             · rw [if_pos c2, if_pos (by omega)]
             · rw [if_neg c2, if_neg (by omega)])
         exact q_locs _ [0, 2, 3, 4, 5, 6, 7, 8] rfl q)
      | (have q := ih (k + 1) (n - (k + 1)) (up σ' 85 (40 * b + j + (n - 1 - k)) (σ' 85 (40 * a + i + (n - 1 - k)))) (by omega) (Or.inr (by omega)) (hF.tt (Fr.up (by simp))) (fun x => by
           rw [up_same, h, h]
           by_cases c : x = 40 * b + j + (n - 1 - k)
           · rw [if_pos c, if_neg (by omega), if_pos (by omega), c]
             congr 1
             omega
           · rw [if_neg c]
             by_cases c2 : 40 * b + j + o ≤ x ∧ x < 40 * b + j + o + k
             · rw [if_pos c2, if_pos (by omega)]
             · rw [if_neg c2, if_neg (by omega)])
         exact q_locs _ [0, 2, 3, 4, 5, 6, 7, 8] rfl q)
    · refine q_iload (pc := 155) dX8_copy_155 rfl ?_
      refine q_goto (pc := 157) (tgt := 167) dX8_copy_157 (by decide) ?_
      refine q_istore (pc := 167) dX8_copy_167 (Nat.le_of_ble_eq_true rfl) ?_
      refine q_aload_n (pc := 169) dX8_copy_169 rfl ?_
      refine q_getR (pc := 170) dX8_copy_170 fX8_16 rfl rfl ?_
      refine q_bipush (pc := 173) dX8_copy_173 (by decide +kernel) ?_
      refine q_iload_n (pc := 175) dX8_copy_175 rfl ?_
      refine q_imul (pc := 176) dX8_copy_176 ?_
      refine q_iload (pc := 177) dX8_copy_177 rfl ?_
      refine q_iadd (pc := 179) dX8_copy_179 ?_
      refine q_iload (pc := 180) dX8_copy_180 rfl ?_
      refine q_iadd (pc := 182) dX8_copy_182 ?_
      refine q_aload_n (pc := 183) dX8_copy_183 rfl ?_
      refine q_getR (pc := 184) dX8_copy_184 fX8_16 rfl rfl ?_
      refine q_bipush (pc := 187) dX8_copy_187 (by decide +kernel) ?_
      refine q_iload_n (pc := 189) dX8_copy_189 rfl ?_
      refine q_imul (pc := 190) dX8_copy_190 ?_
      refine q_iload_n (pc := 191) dX8_copy_191 rfl ?_
      refine q_iadd (pc := 192) dX8_copy_192 ?_
      refine q_iload (pc := 193) dX8_copy_193 rfl ?_
      refine q_iadd (pc := 195) dX8_copy_195 ?_
      refine q_iald (pc := 196) dX8_copy_196 rfl (by omega) ?_
      refine q_iast (pc := 197) dX8_copy_197 rfl (by omega) ?_
      refine q_iinc (pc := 198) dX8_copy_198 rfl (Nat.le_of_ble_eq_true rfl) ?_
      refine q_goto (pc := 201) (tgt := 143) dX8_copy_201 (by decide) ?_
      first
      | (have q := ih (k + 1) 0 (up σ' 85 (40 * b + j + k) (σ' 85 (40 * a + i + k))) (by omega) (Or.inl (by omega)) (hF.tt (Fr.up (by simp))) (fun x => by
           rw [up_same, h, h]
           by_cases c : x = 40 * b + j + k
           · rw [if_pos c, if_neg (by omega), if_pos (by omega), c]
             congr 1
             omega
           · rw [if_neg c]
             by_cases c2 : 40 * b + j + o ≤ x ∧ x < 40 * b + j + o + k
             · rw [if_pos c2, if_pos (by omega)]
             · rw [if_neg c2, if_neg (by omega)])
         exact q_locs _ [0, 2, 3, 4, 5, 6, 7, 8] rfl q)
      | (have q := ih (k + 1) (n - (k + 1)) (up σ' 85 (40 * b + j + (n - 1 - k)) (σ' 85 (40 * a + i + (n - 1 - k)))) (by omega) (Or.inr (by omega)) (hF.tt (Fr.up (by simp))) (fun x => by
           rw [up_same, h, h]
           by_cases c : x = 40 * b + j + (n - 1 - k)
           · rw [if_pos c, if_neg (by omega), if_pos (by omega), c]
             congr 1
             omega
           · rw [if_neg c]
             by_cases c2 : 40 * b + j + o ≤ x ∧ x < 40 * b + j + o + k
             · rw [if_pos c2, if_pos (by omega)]
             · rw [if_neg c2, if_neg (by omega)])
         exact q_locs _ [0, 2, 3, 4, 5, 6, 7, 8] rfl q)
theorem m_copy {a i b j n : Int} (hM : MR σ A) (hV : AV A) (ha : -2147483648 ≤ a ∧ a ≤ 2147483647) (hi : -2147483648 ≤ i ∧ i ≤ 2147483647) (hb : -2147483648 ≤ b ∧ b ≤ 2147483647) (hj : -2147483648 ≤ j ∧ j ≤ 2147483647) (hn : -2147483648 ≤ n ∧ n ≤ 2147483647) : qE G mX8_copy (d + 2) 0 [(0, vr 82), (1, vi a), (2, vi i), (3, vi b), (4, vi j), (5, vi n)] [] σ (ri (pM σ (s_copy A a i b j n))) := by
  refine q_aload_n (pc := 0) dX8_copy_0 rfl ?_
  refine q_iconst (pc := 1) dX8_copy_1 ?_
  refine q_pI (pc := 2) 0 dX8_copy_2 wX8_50 rfl rfl rfl ?_
  have hM := hM.fld (i := 0) (v := 0) (by decide)
  have hF0 : ∀ j, j < 82 → up σ 82 0 0 j = σ j := fun j hj => up_ne (by omega)
  generalize up σ 82 0 0 = τ at hM hF0 ⊢
  refine q_iload_n (pc := 5) dX8_copy_5 rfl ?_
  refine q_S1i (pc := 6) dX8_copy_6 vX8_64 (Nat.le_of_ble_eq_true rfl) (Nat.le_of_ble_eq_true rfl) (t_X8_isRow (by omega)) (fun r1 σ1 hc1 => ?_)
  obtain ⟨rfl, rfl⟩ := hc1
  refine q_ifeqb (pc := 9) (tgt := 19) dX8_copy_9 (by decide) (fun h9 => ?_) (fun h9 => ?_)
  · refine q_ldc (pc := 19) (n := -1000001) kX8_70 dX8_copy_19 ?_
    refine q_ri (pc := 21) dX8_copy_21 rfl ?_
    first
    | (refine ⟨A, ?_, hF0, hM⟩
       first | unfold s_row | unfold s_set | unfold s_copy | unfold s_drop | unfold s_feed | unfold s_image | unfold s_restore | unfold s_as
       repeat' (first | rw [if_neg (by omega)] | rw [if_pos (by omega)] | rw [if_pos (by assumption)] | rw [if_neg (by assumption)])
       done)
    | (refine ⟨_, ?_, hF0, hM⟩
       first | unfold s_row | unfold s_set | unfold s_copy | unfold s_drop | unfold s_feed | unfold s_image | unfold s_restore | unfold s_as
       repeat' (first | rw [if_neg (by omega)] | rw [if_pos (by omega)] | rw [if_pos (by assumption)] | rw [if_neg (by assumption)])
       first | done | rfl)
    | (refine ⟨_, ?_, fun j hj => by rw [up_ne (by omega)]; exact hF0 j hj, hM.st⟩
       first | unfold s_row | unfold s_set | unfold s_copy | unfold s_drop | unfold s_feed | unfold s_image | unfold s_restore | unfold s_as
       repeat' (first | rw [if_neg (by omega)] | rw [if_pos (by omega)] | rw [if_pos (by assumption)] | rw [if_neg (by assumption)])
       first | done | rfl)
  · refine q_iload_n (pc := 12) dX8_copy_12 rfl ?_
    refine q_S1i (pc := 13) dX8_copy_13 vX8_64 (Nat.le_of_ble_eq_true rfl) (Nat.le_of_ble_eq_true rfl) (t_X8_isRow (by omega)) (fun r2 σ2 hc2 => ?_)
    obtain ⟨rfl, rfl⟩ := hc2
    refine q_ifneb (pc := 16) (tgt := 22) dX8_copy_16 (by decide) (fun h16 => ?_) (fun h16 => ?_)
    · refine q_aload_n (pc := 22) dX8_copy_22 rfl ?_
      refine q_iconst (pc := 23) dX8_copy_23 ?_
      refine q_pI (pc := 24) 1 dX8_copy_24 wX8_54 rfl rfl rfl ?_
      have hM := hM.st (s := 0)
      have hF0 : ∀ j, j < 82 → up τ 82 1 0 j = σ j := fun j hj => by rw [up_ne (by omega)]; exact hF0 j hj
      generalize up τ 82 1 0 = τ at hM hF0 ⊢
      have hS : ShM τ A.2.2.2.2.1.1 A.2.2.2.2.1.2.1 A.2.2.2.2.1.2.2 := hM.2.2.2.2.1
      refine q_aload_n (pc := 27) dX8_copy_27 rfl ?_
      refine q_getR (pc := 28) dX8_copy_28 fX8_7 rfl rfl ?_
      refine q_iload_n (pc := 31) dX8_copy_31 rfl ?_
      have hs := hS a (by omega) (by omega)
      have hs1 := hs.1
      have hs2 := hs.2.1
      have hw := hV.2.2.2.2.1 a (by omega) (by omega)
      have hw1 := hw.1
      have hw2 := hw.2.1
      have hs' := hS b (by omega) (by omega)
      have hs1' := hs'.1
      have hs2' := hs'.2.1
      have hw' := hV.2.2.2.2.1 b (by omega) (by omega)
      have hw1' := hw'.1
      have hw2' := hw'.2.1
      refine q_iald (pc := 32) dX8_copy_32 rfl (by omega) ?_
      refine q_iflt (pc := 33) (tgt := 45) dX8_copy_33 (by decide) (by omega) (fun h33 => ?_) (fun h33 => ?_)
      · refine q_aload_n (pc := 45) dX8_copy_45 rfl ?_
        refine q_iconst (pc := 46) dX8_copy_46 ?_
        refine q_V1i (pc := 47) dX8_copy_47 vX8_71 rfl rfl (Nat.le_of_ble_eq_true rfl) (Nat.le_of_ble_eq_true rfl) (t_X8_finding) (fun r3 σ3 hc3 => ?_)
        obtain ⟨rfl, rfl⟩ := hc3
        refine q_ri (pc := 50) dX8_copy_50 rfl ?_
        first
        | (refine ⟨A, ?_, hF0, hM⟩
           first | unfold s_row | unfold s_set | unfold s_copy | unfold s_drop | unfold s_feed | unfold s_image | unfold s_restore | unfold s_as
           repeat' (first | rw [if_neg (by omega)] | rw [if_pos (by omega)] | rw [if_pos (by assumption)] | rw [if_neg (by assumption)])
           done)
        | (refine ⟨_, ?_, hF0, hM⟩
           first | unfold s_row | unfold s_set | unfold s_copy | unfold s_drop | unfold s_feed | unfold s_image | unfold s_restore | unfold s_as
           repeat' (first | rw [if_neg (by omega)] | rw [if_pos (by omega)] | rw [if_pos (by assumption)] | rw [if_neg (by assumption)])
           first | done | rfl)
        | (refine ⟨_, ?_, fun j hj => by rw [up_ne (by omega)]; exact hF0 j hj, hM.st⟩
           first | unfold s_row | unfold s_set | unfold s_copy | unfold s_drop | unfold s_feed | unfold s_image | unfold s_restore | unfold s_as
           repeat' (first | rw [if_neg (by omega)] | rw [if_pos (by omega)] | rw [if_pos (by assumption)] | rw [if_neg (by assumption)])
           first | done | rfl)
      · refine q_aload_n (pc := 36) dX8_copy_36 rfl ?_
        refine q_getR (pc := 37) dX8_copy_37 fX8_7 rfl rfl ?_
        refine q_iload_n (pc := 40) dX8_copy_40 rfl ?_
        refine q_iald (pc := 41) dX8_copy_41 rfl (by omega) ?_
        refine q_ifge (pc := 42) (tgt := 51) dX8_copy_42 (by decide) (by omega) (fun h42 => ?_) (fun h42 => ?_)
        · refine q_aload_n (pc := 51) dX8_copy_51 rfl ?_
          refine q_getR (pc := 52) dX8_copy_52 fX8_7 rfl rfl ?_
          refine q_iload_n (pc := 55) dX8_copy_55 rfl ?_
          refine q_iald (pc := 56) dX8_copy_56 rfl (by omega) ?_
          refine q_aload_n (pc := 57) dX8_copy_57 rfl ?_
          refine q_getR (pc := 58) dX8_copy_58 fX8_7 rfl rfl ?_
          refine q_iload_n (pc := 61) dX8_copy_61 rfl ?_
          refine q_iald (pc := 62) dX8_copy_62 rfl (by omega) ?_
          refine q_icmpeq (pc := 63) (tgt := 72) dX8_copy_63 (by decide) (by omega) (by omega) (fun h63 => ?_) (fun h63 => ?_)
          · refine q_iload_n (pc := 72) dX8_copy_72 rfl ?_
            refine q_iflt (pc := 73) (tgt := 121) dX8_copy_73 (by decide) (by omega) (fun h73 => ?_) (fun h73 => ?_)
            · refine q_aload_n (pc := 121) dX8_copy_121 rfl ?_
              refine q_iconst (pc := 122) dX8_copy_122 ?_
              refine q_V1i (pc := 123) dX8_copy_123 vX8_71 rfl rfl (Nat.le_of_ble_eq_true rfl) (Nat.le_of_ble_eq_true rfl) (t_X8_finding) (fun r4 σ4 hc4 => ?_)
              obtain ⟨rfl, rfl⟩ := hc4
              refine q_ri (pc := 126) dX8_copy_126 rfl ?_
              first
              | (refine ⟨A, ?_, hF0, hM⟩
                 first | unfold s_row | unfold s_set | unfold s_copy | unfold s_drop | unfold s_feed | unfold s_image | unfold s_restore | unfold s_as
                 repeat' (first | rw [if_neg (by omega)] | rw [if_pos (by omega)] | rw [if_pos (by assumption)] | rw [if_neg (by assumption)])
                 done)
              | (refine ⟨_, ?_, hF0, hM⟩
                 first | unfold s_row | unfold s_set | unfold s_copy | unfold s_drop | unfold s_feed | unfold s_image | unfold s_restore | unfold s_as
                 repeat' (first | rw [if_neg (by omega)] | rw [if_pos (by omega)] | rw [if_pos (by assumption)] | rw [if_neg (by assumption)])
                 first | done | rfl)
              | (refine ⟨_, ?_, fun j hj => by rw [up_ne (by omega)]; exact hF0 j hj, hM.st⟩
                 first | unfold s_row | unfold s_set | unfold s_copy | unfold s_drop | unfold s_feed | unfold s_image | unfold s_restore | unfold s_as
                 repeat' (first | rw [if_neg (by omega)] | rw [if_pos (by omega)] | rw [if_pos (by assumption)] | rw [if_neg (by assumption)])
                 first | done | rfl)
            · refine q_iload (pc := 76) dX8_copy_76 rfl ?_
              refine q_iflt (pc := 78) (tgt := 121) dX8_copy_78 (by decide) (by omega) (fun h78 => ?_) (fun h78 => ?_)
              · refine q_aload_n (pc := 121) dX8_copy_121 rfl ?_
                refine q_iconst (pc := 122) dX8_copy_122 ?_
                refine q_V1i (pc := 123) dX8_copy_123 vX8_71 rfl rfl (Nat.le_of_ble_eq_true rfl) (Nat.le_of_ble_eq_true rfl) (t_X8_finding) (fun r5 σ5 hc5 => ?_)
                obtain ⟨rfl, rfl⟩ := hc5
                refine q_ri (pc := 126) dX8_copy_126 rfl ?_
                first
                | (refine ⟨A, ?_, hF0, hM⟩
                   first | unfold s_row | unfold s_set | unfold s_copy | unfold s_drop | unfold s_feed | unfold s_image | unfold s_restore | unfold s_as
                   repeat' (first | rw [if_neg (by omega)] | rw [if_pos (by omega)] | rw [if_pos (by assumption)] | rw [if_neg (by assumption)])
                   done)
                | (refine ⟨_, ?_, hF0, hM⟩
                   first | unfold s_row | unfold s_set | unfold s_copy | unfold s_drop | unfold s_feed | unfold s_image | unfold s_restore | unfold s_as
                   repeat' (first | rw [if_neg (by omega)] | rw [if_pos (by omega)] | rw [if_pos (by assumption)] | rw [if_neg (by assumption)])
                   first | done | rfl)
                | (refine ⟨_, ?_, fun j hj => by rw [up_ne (by omega)]; exact hF0 j hj, hM.st⟩
                   first | unfold s_row | unfold s_set | unfold s_copy | unfold s_drop | unfold s_feed | unfold s_image | unfold s_restore | unfold s_as
                   repeat' (first | rw [if_neg (by omega)] | rw [if_pos (by omega)] | rw [if_pos (by assumption)] | rw [if_neg (by assumption)])
                   first | done | rfl)
              · refine q_iload (pc := 81) dX8_copy_81 rfl ?_
                refine q_iflt (pc := 83) (tgt := 121) dX8_copy_83 (by decide) (by omega) (fun h83 => ?_) (fun h83 => ?_)
                · refine q_aload_n (pc := 121) dX8_copy_121 rfl ?_
                  refine q_iconst (pc := 122) dX8_copy_122 ?_
                  refine q_V1i (pc := 123) dX8_copy_123 vX8_71 rfl rfl (Nat.le_of_ble_eq_true rfl) (Nat.le_of_ble_eq_true rfl) (t_X8_finding) (fun r6 σ6 hc6 => ?_)
                  obtain ⟨rfl, rfl⟩ := hc6
                  refine q_ri (pc := 126) dX8_copy_126 rfl ?_
                  first
                  | (refine ⟨A, ?_, hF0, hM⟩
                     first | unfold s_row | unfold s_set | unfold s_copy | unfold s_drop | unfold s_feed | unfold s_image | unfold s_restore | unfold s_as
                     repeat' (first | rw [if_neg (by omega)] | rw [if_pos (by omega)] | rw [if_pos (by assumption)] | rw [if_neg (by assumption)])
                     done)
                  | (refine ⟨_, ?_, hF0, hM⟩
                     first | unfold s_row | unfold s_set | unfold s_copy | unfold s_drop | unfold s_feed | unfold s_image | unfold s_restore | unfold s_as
                     repeat' (first | rw [if_neg (by omega)] | rw [if_pos (by omega)] | rw [if_pos (by assumption)] | rw [if_neg (by assumption)])
                     first | done | rfl)
                  | (refine ⟨_, ?_, fun j hj => by rw [up_ne (by omega)]; exact hF0 j hj, hM.st⟩
                     first | unfold s_row | unfold s_set | unfold s_copy | unfold s_drop | unfold s_feed | unfold s_image | unfold s_restore | unfold s_as
                     repeat' (first | rw [if_neg (by omega)] | rw [if_pos (by omega)] | rw [if_pos (by assumption)] | rw [if_neg (by assumption)])
                     first | done | rfl)
                · refine q_iload_n (pc := 86) dX8_copy_86 rfl ?_
                  refine q_i2l (pc := 87) dX8_copy_87 (by omega) ?_
                  refine q_iload (pc := 88) dX8_copy_88 rfl ?_
                  refine q_i2l (pc := 90) dX8_copy_90 (by omega) ?_
                  refine q_ladd (pc := 91) dX8_copy_91 ?_
                  refine q_aload_n (pc := 92) dX8_copy_92 rfl ?_
                  refine q_getR (pc := 93) dX8_copy_93 fX8_13 rfl rfl ?_
                  refine q_iload_n (pc := 96) dX8_copy_96 rfl ?_
                  refine q_iald (pc := 97) dX8_copy_97 rfl (by omega) ?_
                  refine q_i2l (pc := 98) dX8_copy_98 (by omega) ?_
                  have hc1 := qcmp_in (i + n) (τ 84 a)
                  have hc2 := @qcmp_gt (i + n) (τ 84 a)
                  refine q_lcmp (pc := 99) dX8_copy_99 (by omega) (by omega) ?_
                  refine q_ifgt (pc := 100) (tgt := 121) dX8_copy_100 (by decide) (by omega) (fun h100 => ?_) (fun h100 => ?_)
                  · refine q_aload_n (pc := 121) dX8_copy_121 rfl ?_
                    refine q_iconst (pc := 122) dX8_copy_122 ?_
                    refine q_V1i (pc := 123) dX8_copy_123 vX8_71 rfl rfl (Nat.le_of_ble_eq_true rfl) (Nat.le_of_ble_eq_true rfl) (t_X8_finding) (fun r7 σ7 hc7 => ?_)
                    obtain ⟨rfl, rfl⟩ := hc7
                    refine q_ri (pc := 126) dX8_copy_126 rfl ?_
                    first
                    | (refine ⟨A, ?_, hF0, hM⟩
                       first | unfold s_row | unfold s_set | unfold s_copy | unfold s_drop | unfold s_feed | unfold s_image | unfold s_restore | unfold s_as
                       repeat' (first | rw [if_neg (by omega)] | rw [if_pos (by omega)] | rw [if_pos (by assumption)] | rw [if_neg (by assumption)])
                       done)
                    | (refine ⟨_, ?_, hF0, hM⟩
                       first | unfold s_row | unfold s_set | unfold s_copy | unfold s_drop | unfold s_feed | unfold s_image | unfold s_restore | unfold s_as
                       repeat' (first | rw [if_neg (by omega)] | rw [if_pos (by omega)] | rw [if_pos (by assumption)] | rw [if_neg (by assumption)])
                       first | done | rfl)
                    | (refine ⟨_, ?_, fun j hj => by rw [up_ne (by omega)]; exact hF0 j hj, hM.st⟩
                       first | unfold s_row | unfold s_set | unfold s_copy | unfold s_drop | unfold s_feed | unfold s_image | unfold s_restore | unfold s_as
                       repeat' (first | rw [if_neg (by omega)] | rw [if_pos (by omega)] | rw [if_pos (by assumption)] | rw [if_neg (by assumption)])
                       first | done | rfl)
                  · refine q_iload (pc := 103) dX8_copy_103 rfl ?_
                    refine q_i2l (pc := 105) dX8_copy_105 (by omega) ?_
                    refine q_iload (pc := 106) dX8_copy_106 rfl ?_
                    refine q_i2l (pc := 108) dX8_copy_108 (by omega) ?_
                    refine q_ladd (pc := 109) dX8_copy_109 ?_
                    refine q_aload_n (pc := 110) dX8_copy_110 rfl ?_
                    refine q_getR (pc := 111) dX8_copy_111 fX8_13 rfl rfl ?_
                    refine q_iload_n (pc := 114) dX8_copy_114 rfl ?_
                    refine q_iald (pc := 115) dX8_copy_115 rfl (by omega) ?_
                    refine q_i2l (pc := 116) dX8_copy_116 (by omega) ?_
                    have hd1 := qcmp_in (j + n) (τ 84 b)
                    have hd2 := @qcmp_gt (j + n) (τ 84 b)
                    refine q_lcmp (pc := 117) dX8_copy_117 (by omega) (by omega) ?_
                    refine q_ifle (pc := 118) (tgt := 127) dX8_copy_118 (by decide) (by omega) (fun h118 => ?_) (fun h118 => ?_)
                    · refine q_iload_n (pc := 127) dX8_copy_127 rfl ?_
                      refine q_iload (pc := 128) dX8_copy_128 rfl ?_
                      refine q_icmplt (pc := 130) (tgt := 137) dX8_copy_130 (by decide) (by omega) (by omega) (fun h130 => ?_) (fun h130 => ?_)
                      · refine q_iconst (pc := 137) dX8_copy_137 ?_
                        refine q_istore (pc := 138) dX8_copy_138 (Nat.le_of_ble_eq_true rfl) ?_
                        refine q_iconst (pc := 140) dX8_copy_140 ?_
                        refine q_istore (pc := 141) dX8_copy_141 (Nat.le_of_ble_eq_true rfl) ?_
                        have e : s_copy A a i b j n = (n, aH A 0 (A.2.2.2.2.1.1, A.2.2.2.2.1.2.1, itMove A.2.2.2.2.1.2.2 a i b j n)) := by
                          unfold s_copy
                          rw [if_pos (by omega), if_neg (by omega), if_pos (by omega), if_pos (by omega)]
                        rw [e]
                        have fin : ∀ v σ', (ri fun x σ1 => n = x ∧ Fr τ σ1 [85] ∧ ShM σ1 A.2.2.2.2.1.1 A.2.2.2.2.1.2.1 (itMove A.2.2.2.2.1.2.2 a i b j n)) v σ' → ri (pM σ (n, aH A 0 (A.2.2.2.2.1.1, A.2.2.2.2.1.2.1, itMove A.2.2.2.2.1.2.2 a i b j n))) v σ' := by
                          intro v σ' h
                          obtain ⟨x, h1, h2, h3, h4⟩ := h
                          exact ⟨x, h1, pM.go (fun j hj => by rw [h3.m (by decide) j hj, hF0 j hj]) (hM.sh (h3.wk (by simp)) h4) h2⟩
                        first
                        | exact q_mono fin (m_copy_l (by omega) (by omega) (by omega) hS hV.2.2.2.2.1 (by omega) n.toNat 0 0 τ (by omega) (Or.inl (by omega)) Fr.rf (fun x => by rw [if_neg (by omega)]))
                        | exact q_mono fin (m_copy_l (by omega) (by omega) (by omega) hS hV.2.2.2.2.1 (by omega) n.toNat 0 n τ (by omega) (Or.inr (by omega)) Fr.rf (fun x => by rw [if_neg (by omega)]))
                      · refine q_iconst (pc := 133) dX8_copy_133 ?_
                        refine q_goto (pc := 134) (tgt := 138) dX8_copy_134 (by decide) ?_
                        refine q_istore (pc := 138) dX8_copy_138 (Nat.le_of_ble_eq_true rfl) ?_
                        refine q_iconst (pc := 140) dX8_copy_140 ?_
                        refine q_istore (pc := 141) dX8_copy_141 (Nat.le_of_ble_eq_true rfl) ?_
                        have e : s_copy A a i b j n = (n, aH A 0 (A.2.2.2.2.1.1, A.2.2.2.2.1.2.1, itMove A.2.2.2.2.1.2.2 a i b j n)) := by
                          unfold s_copy
                          rw [if_pos (by omega), if_neg (by omega), if_pos (by omega), if_pos (by omega)]
                        rw [e]
                        have fin : ∀ v σ', (ri fun x σ1 => n = x ∧ Fr τ σ1 [85] ∧ ShM σ1 A.2.2.2.2.1.1 A.2.2.2.2.1.2.1 (itMove A.2.2.2.2.1.2.2 a i b j n)) v σ' → ri (pM σ (n, aH A 0 (A.2.2.2.2.1.1, A.2.2.2.2.1.2.1, itMove A.2.2.2.2.1.2.2 a i b j n))) v σ' := by
                          intro v σ' h
                          obtain ⟨x, h1, h2, h3, h4⟩ := h
                          exact ⟨x, h1, pM.go (fun j hj => by rw [h3.m (by decide) j hj, hF0 j hj]) (hM.sh (h3.wk (by simp)) h4) h2⟩
                        first
                        | exact q_mono fin (m_copy_l (by omega) (by omega) (by omega) hS hV.2.2.2.2.1 (by omega) n.toNat 0 0 τ (by omega) (Or.inl (by omega)) Fr.rf (fun x => by rw [if_neg (by omega)]))
                        | exact q_mono fin (m_copy_l (by omega) (by omega) (by omega) hS hV.2.2.2.2.1 (by omega) n.toNat 0 n τ (by omega) (Or.inr (by omega)) Fr.rf (fun x => by rw [if_neg (by omega)]))
                    · refine q_aload_n (pc := 121) dX8_copy_121 rfl ?_
                      refine q_iconst (pc := 122) dX8_copy_122 ?_
                      refine q_V1i (pc := 123) dX8_copy_123 vX8_71 rfl rfl (Nat.le_of_ble_eq_true rfl) (Nat.le_of_ble_eq_true rfl) (t_X8_finding) (fun r8 σ8 hc8 => ?_)
                      obtain ⟨rfl, rfl⟩ := hc8
                      refine q_ri (pc := 126) dX8_copy_126 rfl ?_
                      first
                      | (refine ⟨A, ?_, hF0, hM⟩
                         first | unfold s_row | unfold s_set | unfold s_copy | unfold s_drop | unfold s_feed | unfold s_image | unfold s_restore | unfold s_as
                         repeat' (first | rw [if_neg (by omega)] | rw [if_pos (by omega)] | rw [if_pos (by assumption)] | rw [if_neg (by assumption)])
                         done)
                      | (refine ⟨_, ?_, hF0, hM⟩
                         first | unfold s_row | unfold s_set | unfold s_copy | unfold s_drop | unfold s_feed | unfold s_image | unfold s_restore | unfold s_as
                         repeat' (first | rw [if_neg (by omega)] | rw [if_pos (by omega)] | rw [if_pos (by assumption)] | rw [if_neg (by assumption)])
                         first | done | rfl)
                      | (refine ⟨_, ?_, fun j hj => by rw [up_ne (by omega)]; exact hF0 j hj, hM.st⟩
                         first | unfold s_row | unfold s_set | unfold s_copy | unfold s_drop | unfold s_feed | unfold s_image | unfold s_restore | unfold s_as
                         repeat' (first | rw [if_neg (by omega)] | rw [if_pos (by omega)] | rw [if_pos (by assumption)] | rw [if_neg (by assumption)])
                         first | done | rfl)
          · refine q_aload_n (pc := 66) dX8_copy_66 rfl ?_
            refine q_iconst (pc := 67) dX8_copy_67 ?_
            refine q_V1i (pc := 68) dX8_copy_68 vX8_71 rfl rfl (Nat.le_of_ble_eq_true rfl) (Nat.le_of_ble_eq_true rfl) (t_X8_finding) (fun r9 σ9 hc9 => ?_)
            obtain ⟨rfl, rfl⟩ := hc9
            refine q_ri (pc := 71) dX8_copy_71 rfl ?_
            first
            | (refine ⟨A, ?_, hF0, hM⟩
               first | unfold s_row | unfold s_set | unfold s_copy | unfold s_drop | unfold s_feed | unfold s_image | unfold s_restore | unfold s_as
               repeat' (first | rw [if_neg (by omega)] | rw [if_pos (by omega)] | rw [if_pos (by assumption)] | rw [if_neg (by assumption)])
               done)
            | (refine ⟨_, ?_, hF0, hM⟩
               first | unfold s_row | unfold s_set | unfold s_copy | unfold s_drop | unfold s_feed | unfold s_image | unfold s_restore | unfold s_as
               repeat' (first | rw [if_neg (by omega)] | rw [if_pos (by omega)] | rw [if_pos (by assumption)] | rw [if_neg (by assumption)])
               first | done | rfl)
            | (refine ⟨_, ?_, fun j hj => by rw [up_ne (by omega)]; exact hF0 j hj, hM.st⟩
               first | unfold s_row | unfold s_set | unfold s_copy | unfold s_drop | unfold s_feed | unfold s_image | unfold s_restore | unfold s_as
               repeat' (first | rw [if_neg (by omega)] | rw [if_pos (by omega)] | rw [if_pos (by assumption)] | rw [if_neg (by assumption)])
               first | done | rfl)
        · refine q_aload_n (pc := 45) dX8_copy_45 rfl ?_
          refine q_iconst (pc := 46) dX8_copy_46 ?_
          refine q_V1i (pc := 47) dX8_copy_47 vX8_71 rfl rfl (Nat.le_of_ble_eq_true rfl) (Nat.le_of_ble_eq_true rfl) (t_X8_finding) (fun r10 σ10 hc10 => ?_)
          obtain ⟨rfl, rfl⟩ := hc10
          refine q_ri (pc := 50) dX8_copy_50 rfl ?_
          first
          | (refine ⟨A, ?_, hF0, hM⟩
             first | unfold s_row | unfold s_set | unfold s_copy | unfold s_drop | unfold s_feed | unfold s_image | unfold s_restore | unfold s_as
             repeat' (first | rw [if_neg (by omega)] | rw [if_pos (by omega)] | rw [if_pos (by assumption)] | rw [if_neg (by assumption)])
             done)
          | (refine ⟨_, ?_, hF0, hM⟩
             first | unfold s_row | unfold s_set | unfold s_copy | unfold s_drop | unfold s_feed | unfold s_image | unfold s_restore | unfold s_as
             repeat' (first | rw [if_neg (by omega)] | rw [if_pos (by omega)] | rw [if_pos (by assumption)] | rw [if_neg (by assumption)])
             first | done | rfl)
          | (refine ⟨_, ?_, fun j hj => by rw [up_ne (by omega)]; exact hF0 j hj, hM.st⟩
             first | unfold s_row | unfold s_set | unfold s_copy | unfold s_drop | unfold s_feed | unfold s_image | unfold s_restore | unfold s_as
             repeat' (first | rw [if_neg (by omega)] | rw [if_pos (by omega)] | rw [if_pos (by assumption)] | rw [if_neg (by assumption)])
             first | done | rfl)
    · refine q_ldc (pc := 19) (n := -1000001) kX8_70 dX8_copy_19 ?_
      refine q_ri (pc := 21) dX8_copy_21 rfl ?_
      first
      | (refine ⟨A, ?_, hF0, hM⟩
         first | unfold s_row | unfold s_set | unfold s_copy | unfold s_drop | unfold s_feed | unfold s_image | unfold s_restore | unfold s_as
         repeat' (first | rw [if_neg (by omega)] | rw [if_pos (by omega)] | rw [if_pos (by assumption)] | rw [if_neg (by assumption)])
         done)
      | (refine ⟨_, ?_, hF0, hM⟩
         first | unfold s_row | unfold s_set | unfold s_copy | unfold s_drop | unfold s_feed | unfold s_image | unfold s_restore | unfold s_as
         repeat' (first | rw [if_neg (by omega)] | rw [if_pos (by omega)] | rw [if_pos (by assumption)] | rw [if_neg (by assumption)])
         first | done | rfl)
      | (refine ⟨_, ?_, fun j hj => by rw [up_ne (by omega)]; exact hF0 j hj, hM.st⟩
         first | unfold s_row | unfold s_set | unfold s_copy | unfold s_drop | unfold s_feed | unfold s_image | unfold s_restore | unfold s_as
         repeat' (first | rw [if_neg (by omega)] | rw [if_pos (by omega)] | rw [if_pos (by assumption)] | rw [if_neg (by assumption)])
         first | done | rfl)
theorem m_drop {r : Int} (hM : MR σ A) (hV : AV A) (hr : -2147483648 ≤ r ∧ r ≤ 2147483647) : qE G mX8_drop (d + 2) 0 [(0, vr 82), (1, vi r)] [] σ (ri (pM σ (s_drop A r))) := by
  refine q_aload_n (pc := 0) dX8_drop_0 rfl ?_
  refine q_iconst (pc := 1) dX8_drop_1 ?_
  refine q_pI (pc := 2) 0 dX8_drop_2 wX8_50 rfl rfl rfl ?_
  have hM := hM.fld (i := 0) (v := 0) (by decide)
  have hF0 : ∀ j, j < 82 → up σ 82 0 0 j = σ j := fun j hj => up_ne (by omega)
  generalize up σ 82 0 0 = τ at hM hF0 ⊢
  refine q_iload_n (pc := 5) dX8_drop_5 rfl ?_
  refine q_S1i (pc := 6) dX8_drop_6 vX8_64 (Nat.le_of_ble_eq_true rfl) (Nat.le_of_ble_eq_true rfl) (t_X8_isRow (by omega)) (fun r1 σ1 hc1 => ?_)
  obtain ⟨rfl, rfl⟩ := hc1
  refine q_ifneb (pc := 9) (tgt := 15) dX8_drop_9 (by decide) (fun h9 => ?_) (fun h9 => ?_)
  · refine q_aload_n (pc := 15) dX8_drop_15 rfl ?_
    refine q_iconst (pc := 16) dX8_drop_16 ?_
    refine q_pI (pc := 17) 1 dX8_drop_17 wX8_54 rfl rfl rfl ?_
    have hM := hM.st (s := 0)
    have hF0 : ∀ j, j < 82 → up τ 82 1 0 j = σ j := fun j hj => by rw [up_ne (by omega)]; exact hF0 j hj
    generalize up τ 82 1 0 = τ at hM hF0 ⊢
    have hS : ShM τ A.2.2.2.2.1.1 A.2.2.2.2.1.2.1 A.2.2.2.2.1.2.2 := hM.2.2.2.2.1
    refine q_aload_n (pc := 20) dX8_drop_20 rfl ?_
    refine q_getR (pc := 21) dX8_drop_21 fX8_7 rfl rfl ?_
    refine q_iload_n (pc := 24) dX8_drop_24 rfl ?_
    have hs := hS r (by omega) (by omega)
    have hs1 := hs.1
    have hs2 := hs.2.1
    have hw := hV.2.2.2.2.1 r (by omega) (by omega)
    have hw1 := hw.1
    have hw2 := hw.2.1
    refine q_iald (pc := 25) dX8_drop_25 rfl (by omega) ?_
    refine q_ifge (pc := 26) (tgt := 35) dX8_drop_26 (by decide) (by omega) (fun h26 => ?_) (fun h26 => ?_)
    · refine q_aload_n (pc := 35) dX8_drop_35 rfl ?_
      refine q_getR (pc := 36) dX8_drop_36 fX8_7 rfl rfl ?_
      refine q_iload_n (pc := 39) dX8_drop_39 rfl ?_
      refine q_iconst (pc := 40) dX8_drop_40 ?_
      refine q_iast (pc := 41) dX8_drop_41 rfl (by omega) ?_
      refine q_aload_n (pc := 42) dX8_drop_42 rfl ?_
      refine q_getR (pc := 43) dX8_drop_43 fX8_13 rfl rfl ?_
      refine q_iload_n (pc := 46) dX8_drop_46 rfl ?_
      refine q_iald (pc := 47) dX8_drop_47 rfl (by omega) ?_
      refine q_ri (pc := 48) dX8_drop_48 rfl ?_
      have e : s_drop A r = (A.2.2.2.2.1.2.1 r, aH A 0 (u1 A.2.2.2.2.1.1 r (-1), A.2.2.2.2.1.2.1, A.2.2.2.2.1.2.2)) := by
        unfold s_drop
        rw [if_pos (by omega), if_neg (by omega)]
      rw [e]
      refine pM.go (fun j hj => by rw [up_ne (by omega)]; exact hF0 j hj) (hM.sh (Fr.up (by simp)) (fun q h0 h1 => ?_)) (by rw [up_ne (by omega)]; exact hs2.symm)
      obtain ⟨s1, s2, s3⟩ := hS q h0 h1
      rw [up_same, up_ne (by omega), up_ne (by omega), s1]
      exact ⟨rfl, s2, s3⟩
    · refine q_aload_n (pc := 29) dX8_drop_29 rfl ?_
      refine q_iconst (pc := 30) dX8_drop_30 ?_
      refine q_V1i (pc := 31) dX8_drop_31 vX8_71 rfl rfl (Nat.le_of_ble_eq_true rfl) (Nat.le_of_ble_eq_true rfl) (t_X8_finding) (fun r2 σ2 hc2 => ?_)
      obtain ⟨rfl, rfl⟩ := hc2
      refine q_ri (pc := 34) dX8_drop_34 rfl ?_
      first
      | (refine ⟨A, ?_, hF0, hM⟩
         first | unfold s_row | unfold s_set | unfold s_copy | unfold s_drop | unfold s_feed | unfold s_image | unfold s_restore | unfold s_as
         repeat' (first | rw [if_neg (by omega)] | rw [if_pos (by omega)] | rw [if_pos (by assumption)] | rw [if_neg (by assumption)])
         done)
      | (refine ⟨_, ?_, hF0, hM⟩
         first | unfold s_row | unfold s_set | unfold s_copy | unfold s_drop | unfold s_feed | unfold s_image | unfold s_restore | unfold s_as
         repeat' (first | rw [if_neg (by omega)] | rw [if_pos (by omega)] | rw [if_pos (by assumption)] | rw [if_neg (by assumption)])
         first | done | rfl)
      | (refine ⟨_, ?_, fun j hj => by rw [up_ne (by omega)]; exact hF0 j hj, hM.st⟩
         first | unfold s_row | unfold s_set | unfold s_copy | unfold s_drop | unfold s_feed | unfold s_image | unfold s_restore | unfold s_as
         repeat' (first | rw [if_neg (by omega)] | rw [if_pos (by omega)] | rw [if_pos (by assumption)] | rw [if_neg (by assumption)])
         first | done | rfl)
  · refine q_ldc (pc := 12) (n := -1000001) kX8_70 dX8_drop_12 ?_
    refine q_ri (pc := 14) dX8_drop_14 rfl ?_
    first
    | (refine ⟨A, ?_, hF0, hM⟩
       first | unfold s_row | unfold s_set | unfold s_copy | unfold s_drop | unfold s_feed | unfold s_image | unfold s_restore | unfold s_as
       repeat' (first | rw [if_neg (by omega)] | rw [if_pos (by omega)] | rw [if_pos (by assumption)] | rw [if_neg (by assumption)])
       done)
    | (refine ⟨_, ?_, hF0, hM⟩
       first | unfold s_row | unfold s_set | unfold s_copy | unfold s_drop | unfold s_feed | unfold s_image | unfold s_restore | unfold s_as
       repeat' (first | rw [if_neg (by omega)] | rw [if_pos (by omega)] | rw [if_pos (by assumption)] | rw [if_neg (by assumption)])
       first | done | rfl)
    | (refine ⟨_, ?_, fun j hj => by rw [up_ne (by omega)]; exact hF0 j hj, hM.st⟩
       first | unfold s_row | unfold s_set | unfold s_copy | unfold s_drop | unfold s_feed | unfold s_image | unfold s_restore | unfold s_as
       repeat' (first | rw [if_neg (by omega)] | rw [if_pos (by omega)] | rw [if_pos (by assumption)] | rw [if_neg (by assumption)])
       first | done | rfl)
theorem m_feed {b : Int} (hM : MR σ A) (hV : AV A) (hb : -2147483648 ≤ b ∧ b ≤ 2147483647) : qE G mX8_feed (d + 2) 0 [(0, vr 82), (1, vi b)] [] σ (ri (pM σ (s_feed A b))) := by
  have v13 := hV.2.2.2.2.2.1.1
  refine q_aload_n (pc := 0) dX8_feed_0 rfl ?_
  refine q_iconst (pc := 1) dX8_feed_1 ?_
  refine q_pI (pc := 2) 0 dX8_feed_2 wX8_50 rfl rfl rfl ?_
  have hM := hM.fld (i := 0) (v := 0) (by decide)
  have hF0 : ∀ j, j < 82 → up σ 82 0 0 j = σ j := fun j hj => up_ne (by omega)
  generalize up σ 82 0 0 = τ at hM hF0 ⊢
  refine q_iload_n (pc := 5) dX8_feed_5 rfl ?_
  refine q_i2l (pc := 6) dX8_feed_6 (by omega) ?_
  refine q_lconst0 (pc := 7) dX8_feed_7 ?_
  refine q_ldc2 (pc := 8) (n := 255) kX8_75 dX8_feed_8 ?_
  refine q_S3i (pc := 11) dX8_feed_11 vX8_60 (Nat.le_of_ble_eq_true rfl) (Nat.le_of_ble_eq_true rfl) (t_X8_in (by omega) (by omega) (by omega)) (fun r1 σ1 hc1 => ?_)
  obtain ⟨rfl, rfl⟩ := hc1
  refine q_ifneb (pc := 14) (tgt := 20) dX8_feed_14 (by decide) (fun h14 => ?_) (fun h14 => ?_)
  · refine q_aload_n (pc := 20) dX8_feed_20 rfl ?_
    have e13 := hM.2.2.2.2.2.1
    have e131 := e13.1
    refine q_gI (pc := 21) 11 dX8_feed_21 fX8_77 rfl rfl rfl ?_
    refine q_bipush (pc := 24) dX8_feed_24 (by decide +kernel) ?_
    refine q_icmpne (pc := 26) (tgt := 32) dX8_feed_26 (by decide) (by omega) (by omega) (fun h26 => ?_) (fun h26 => ?_)
    · refine q_aload_n (pc := 32) dX8_feed_32 rfl ?_
      refine q_getR (pc := 33) dX8_feed_33 fX8_31 rfl rfl ?_
      refine q_aload_n (pc := 36) dX8_feed_36 rfl ?_
      refine q_gI (pc := 37) 11 dX8_feed_37 fX8_77 rfl rfl rfl ?_
      refine q_iload_n (pc := 40) dX8_feed_40 rfl ?_
      refine q_iast (pc := 41) dX8_feed_41 rfl (by omega) ?_
      refine q_aload_n (pc := 42) dX8_feed_42 rfl ?_
      refine q_dup (pc := 43) dX8_feed_43 rfl ?_
      refine q_gI (pc := 44) 11 dX8_feed_44 fX8_77 rfl rfl rfl ?_
      refine q_iconst (pc := 47) dX8_feed_47 ?_
      refine q_iadd (pc := 48) dX8_feed_48 ?_
      refine q_pI (pc := 49) 11 dX8_feed_49 wX8_77 rfl rfl rfl ?_
      refine q_aload_n (pc := 52) dX8_feed_52 rfl ?_
      refine q_gI (pc := 53) 11 dX8_feed_53 fX8_77 rfl rfl rfl ?_
      refine q_ri (pc := 56) dX8_feed_56 rfl ?_
      have e : s_feed A b = (A.2.2.2.2.2.1.2 + 1, A.1, A.2.1, A.2.2.1, A.2.2.2.1, A.2.2.2.2.1, (u1 A.2.2.2.2.2.1.1 A.2.2.2.2.2.1.2 b, A.2.2.2.2.2.1.2 + 1), A.2.2.2.2.2.2) := by
        unfold s_feed
        rw [if_pos (by omega), if_neg (by omega)]
      rw [e]
      have ef : ∀ j : Nat, j ≠ 82 → j ≠ 90 → up (up τ 90 (τ 82 11) b) 82 11 (up τ 90 (τ 82 11) b 82 11 + 1) j = τ j := fun j h1 h2 => by rw [up_ne h1, up_ne h2]
      have e8 : ∀ i, up (up τ 90 (τ 82 11) b) 82 11 (up τ 90 (τ 82 11) b 82 11 + 1) 82 i = if i = 11 then A.2.2.2.2.2.1.2 + 1 else τ 82 i := fun i => by rw [up_same, up_ne (by omega), e131]
      have e9 : ∀ i, up (up τ 90 (τ 82 11) b) 82 11 (up τ 90 (τ 82 11) b 82 11 + 1) 90 i = if i = A.2.2.2.2.2.1.2 then b else τ 90 i := fun i => by rw [up_ne (by omega), up_same, e131]
      refine pM.go (fun j hj => by rw [ef j (by omega) (by omega), hF0 j hj]) ?_ (by rw [e8, if_pos rfl])
      generalize up (up τ 90 (τ 82 11) b) 82 11 (up τ 90 (τ 82 11) b 82 11 + 1) = τ' at ef e8 e9 ⊢
      obtain ⟨h1, h2, h3, h4, h5, h6, h7, h8⟩ := hM
      unfold MR RwR AcM ShM
      rw [ef 83 (by omega) (by omega), ef 84 (by omega) (by omega), ef 85 (by omega) (by omega), ef 86 (by omega) (by omega), ef 89 (by omega) (by omega), ef 93 (by omega) (by omega), ef 94 (by omega) (by omega), ef 95 (by omega) (by omega)]
      simp only [e8]
      refine ⟨h1, h2, h3, h4, h5, ⟨rfl, fun j a c => ?_⟩, h7, h8⟩
      have c2 : j < A.2.2.2.2.2.1.2 + 1 := c
      rw [e9]
      show _ = u1 _ _ b j
      unfold u1
      by_cases c : j = A.2.2.2.2.2.1.2
      · rw [if_pos c, if_pos c]
      · rw [if_neg c, if_neg c]; exact h6.2 j a (by omega)
    · refine q_ldc (pc := 29) (n := -1000003) kX8_80 dX8_feed_29 ?_
      refine q_ri (pc := 31) dX8_feed_31 rfl ?_
      first
      | (refine ⟨A, ?_, hF0, hM⟩
         first | unfold s_row | unfold s_set | unfold s_copy | unfold s_drop | unfold s_feed | unfold s_image | unfold s_restore | unfold s_as
         repeat' (first | rw [if_neg (by omega)] | rw [if_pos (by omega)] | rw [if_pos (by assumption)] | rw [if_neg (by assumption)])
         done)
      | (refine ⟨_, ?_, hF0, hM⟩
         first | unfold s_row | unfold s_set | unfold s_copy | unfold s_drop | unfold s_feed | unfold s_image | unfold s_restore | unfold s_as
         repeat' (first | rw [if_neg (by omega)] | rw [if_pos (by omega)] | rw [if_pos (by assumption)] | rw [if_neg (by assumption)])
         first | done | rfl)
      | (refine ⟨_, ?_, fun j hj => by rw [up_ne (by omega)]; exact hF0 j hj, hM.st⟩
         first | unfold s_row | unfold s_set | unfold s_copy | unfold s_drop | unfold s_feed | unfold s_image | unfold s_restore | unfold s_as
         repeat' (first | rw [if_neg (by omega)] | rw [if_pos (by omega)] | rw [if_pos (by assumption)] | rw [if_neg (by assumption)])
         first | done | rfl)
  · refine q_ldc (pc := 17) (n := -1000001) kX8_70 dX8_feed_17 ?_
    refine q_ri (pc := 19) dX8_feed_19 rfl ?_
    first
    | (refine ⟨A, ?_, hF0, hM⟩
       first | unfold s_row | unfold s_set | unfold s_copy | unfold s_drop | unfold s_feed | unfold s_image | unfold s_restore | unfold s_as
       repeat' (first | rw [if_neg (by omega)] | rw [if_pos (by omega)] | rw [if_pos (by assumption)] | rw [if_neg (by assumption)])
       done)
    | (refine ⟨_, ?_, hF0, hM⟩
       first | unfold s_row | unfold s_set | unfold s_copy | unfold s_drop | unfold s_feed | unfold s_image | unfold s_restore | unfold s_as
       repeat' (first | rw [if_neg (by omega)] | rw [if_pos (by omega)] | rw [if_pos (by assumption)] | rw [if_neg (by assumption)])
       first | done | rfl)
    | (refine ⟨_, ?_, fun j hj => by rw [up_ne (by omega)]; exact hF0 j hj, hM.st⟩
       first | unfold s_row | unfold s_set | unfold s_copy | unfold s_drop | unfold s_feed | unfold s_image | unfold s_restore | unfold s_as
       repeat' (first | rw [if_neg (by omega)] | rw [if_pos (by omega)] | rw [if_pos (by assumption)] | rw [if_neg (by assumption)])
       first | done | rfl)
theorem m_image_l {k : Int} {f : Int → Int} {Q : Option qV → qM → Prop} (hk : 0 ≤ k ∧ k ≤ 1) (hf : RwR σ 86 f) (hx : ∀ σ1 x, Fr σ σ1 [94] → (∀ j, σ1 94 j = if 34 * k ≤ j ∧ j < 34 * k + 34 then f (j - 34 * k) else σ 94 j) → qE G mX8_image d 59 [(2, vi x), (0, vr 82), (1, vi k)] [] σ1 Q) : ∀ (m t : Nat) (σ' : qM), m + t = 34 → Fr σ σ' [94] → (∀ j, σ' 94 j = if 34 * k ≤ j ∧ j < 34 * k + t then f (j - 34 * k) else σ 94 j) → qE G mX8_image d 30 [(2, vi t), (0, vr 82), (1, vi k)] [] σ' Q := by
  intro m
  induction m with
  | zero =>
    intro t σ' ht hF h
    refine q_iload_n (pc := 30) dX8_image_30 rfl ?_
    refine q_bipush (pc := 31) dX8_image_31 (by decide +kernel) ?_
    refine q_icmpge (pc := 33) (tgt := 59) dX8_image_33 (by decide) (by omega) (by omega) (fun h33 => ?_) (fun h => absurd h (by omega))
    refine hx σ' t hF (fun j => ?_)
    rw [h j, show (t : Int) = 34 by omega]
  | succ m ih =>
    intro t σ' ht hF h
    have e6 : σ' 86 t = f t := by rw [hF 86 (by simp)]; exact hf t (by omega) (by omega)
    refine q_iload_n (pc := 30) dX8_image_30 rfl ?_
    refine q_bipush (pc := 31) dX8_image_31 (by decide +kernel) ?_
    refine q_icmpge (pc := 33) (tgt := 59) dX8_image_33 (by decide) (by omega) (by omega) (fun h => absurd h (by omega)) (fun h33 => ?_)
    refine q_aload_n (pc := 36) dX8_image_36 rfl ?_
    refine q_getR (pc := 37) dX8_image_37 fX8_44 rfl rfl ?_
    refine q_bipush (pc := 40) dX8_image_40 (by decide +kernel) ?_
    refine q_iload_n (pc := 42) dX8_image_42 rfl ?_
    refine q_imul (pc := 43) dX8_image_43 ?_
    refine q_iload_n (pc := 44) dX8_image_44 rfl ?_
    refine q_iadd (pc := 45) dX8_image_45 ?_
    refine q_aload_n (pc := 46) dX8_image_46 rfl ?_
    refine q_getR (pc := 47) dX8_image_47 fX8_19 rfl rfl ?_
    refine q_iload_n (pc := 50) dX8_image_50 rfl ?_
    refine q_iald (pc := 51) dX8_image_51 rfl (by omega) ?_
    refine q_iast (pc := 52) dX8_image_52 rfl (by omega) ?_
    refine q_iinc (pc := 53) dX8_image_53 rfl (Nat.le_of_ble_eq_true rfl) ?_
    refine q_goto (pc := 56) (tgt := 30) dX8_image_56 (by decide) ?_
    have q := ih (t + 1) (up σ' 94 (34 * k + t) (σ' 86 t)) (by omega) (hF.tt (Fr.up (by simp))) (fun j => ?_)
    · exact q_locs _ [0, 1, 2] rfl q
    · rw [up_same, h, e6]
      by_cases c : j = 34 * k + t
      · rw [if_pos c, if_pos (by omega), c]
        congr 1
        omega
      · rw [if_neg c]
        by_cases c2 : 34 * k ≤ j ∧ j < 34 * k + (t : Int)
        · rw [if_pos c2, if_pos (by omega)]
        · rw [if_neg c2, if_neg (by omega)]
theorem m_image {k : Int} (hM : MR σ A) (hV : AV A) (hk : -2147483648 ≤ k ∧ k ≤ 2147483647) : qE G mX8_image (d + 2) 0 [(0, vr 82), (1, vi k)] [] σ (ri (pM σ (s_image A k))) := by
  have hR := hV.1
  have h01 := hR.f0
  refine q_aload_n (pc := 0) dX8_image_0 rfl ?_
  refine q_iconst (pc := 1) dX8_image_1 ?_
  refine q_pI (pc := 2) 0 dX8_image_2 wX8_50 rfl rfl rfl ?_
  have hM := hM.fld (i := 0) (v := 0) (by decide)
  have hF0 : ∀ j, j < 82 → up σ 82 0 0 j = σ j := fun j hj => up_ne (by omega)
  generalize up σ 82 0 0 = τ at hM hF0 ⊢
  refine q_iload_n (pc := 5) dX8_image_5 rfl ?_
  refine q_i2l (pc := 6) dX8_image_6 (by omega) ?_
  refine q_lconst0 (pc := 7) dX8_image_7 ?_
  refine q_lconst1 (pc := 8) dX8_image_8 ?_
  refine q_S3i (pc := 9) dX8_image_9 vX8_60 (Nat.le_of_ble_eq_true rfl) (Nat.le_of_ble_eq_true rfl) (t_X8_in (by omega) (by omega) (by omega)) (fun r1 σ1 hc1 => ?_)
  obtain ⟨rfl, rfl⟩ := hc1
  refine q_ifneb (pc := 12) (tgt := 18) dX8_image_12 (by decide) (fun h12 => ?_) (fun h12 => ?_)
  · refine q_aload_n (pc := 18) dX8_image_18 rfl ?_
    refine q_V0i (pc := 19) dX8_image_19 vX8_184 rfl rfl (Nat.le_of_ble_eq_true rfl) (Nat.le_of_ble_eq_true rfl) (t_X8_isThere hM.1 h01) (fun r2 σ2 hc2 => ?_)
    obtain ⟨rfl, rfl⟩ := hc2
    refine q_ifneb (pc := 22) (tgt := 28) dX8_image_22 (by decide) (fun h22 => ?_) (fun h22 => ?_)
    · refine q_iconst (pc := 28) dX8_image_28 ?_
      refine q_istore_n (pc := 29) dX8_image_29 (Nat.le_of_ble_eq_true rfl) ?_
      refine m_image_l (by omega) hM.1 (fun σ1 x hF1 h1 => ?_) 34 0 τ rfl Fr.rf (fun j => by rw [if_neg (by omega)])
      refine q_aload_n (pc := 59) dX8_image_59 rfl ?_
      refine q_getR (pc := 60) dX8_image_60 fX8_40 rfl rfl ?_
      refine q_iload_n (pc := 63) dX8_image_63 rfl ?_
      refine q_iconst (pc := 64) dX8_image_64 ?_
      refine q_zast (pc := 65) dX8_image_65 rfl (by omega) (by omega) ?_
      refine q_iconst (pc := 66) dX8_image_66 ?_
      refine q_ri (pc := 67) dX8_image_67 rfl ?_
      have e : s_image A k = (1, A.1, A.2.1, A.2.2.1, A.2.2.2.1, A.2.2.2.2.1, A.2.2.2.2.2.1, (u1 A.2.2.2.2.2.2.1.1 k 1, fun k' => if k' = k then A.1 else A.2.2.2.2.2.2.1.2 k'), A.2.2.2.2.2.2.2) := by
        unfold s_image
        rw [if_pos (by omega), if_pos (by omega)]
      rw [e]
      have ef : ∀ j : Nat, j ≠ 93 → j ≠ 94 → up σ1 93 k 1 j = τ j := fun j a b => by rw [up_ne a, hF1 j (by simp; omega)]
      refine pM.go (fun j hj => by rw [ef j (by omega) (by omega), hF0 j hj]) ?_ rfl
      obtain ⟨h1', h2, h3, h4, h5, h6, h7, h8⟩ := hM
      unfold MR RwR AcM ShM
      rw [ef 82 (by omega) (by omega), ef 83 (by omega) (by omega), ef 84 (by omega) (by omega), ef 85 (by omega) (by omega), ef 86 (by omega) (by omega), ef 89 (by omega) (by omega), ef 90 (by omega) (by omega), ef 95 (by omega) (by omega)]
      refine ⟨h1', h2, h3, h4, h5, h6, fun q hq => ?_, h8⟩
      have h7' := h7 q hq
      rw [up_same, up_ne (by omega), hF1 93 (by simp)]
      show (if q = k then (1 : Int) else τ 93 q) = u1 _ k 1 q ∧ (u1 _ k 1 q = 1 → ∀ j, 0 ≤ j → j < 34 → σ1 94 (34 * q + j) = (if q = k then A.1 else A.2.2.2.2.2.2.1.2 q) j)
      unfold u1
      by_cases c : q = k
      · simp only [if_pos c]
        refine ⟨trivial, fun _ j a b => ?_⟩
        rw [h1, if_pos (by omega)]
        exact congrArg A.1 (by omega)
      · simp only [if_neg c]
        refine ⟨h7'.1, fun z j a b => ?_⟩
        rw [h1, if_neg (by omega)]
        exact h7'.2 z j a b
    · refine q_ldc (pc := 25) (n := -1000002) kX8_187 dX8_image_25 ?_
      refine q_ri (pc := 27) dX8_image_27 rfl ?_
      first
      | (refine ⟨A, ?_, hF0, hM⟩
         first | unfold s_row | unfold s_set | unfold s_copy | unfold s_drop | unfold s_feed | unfold s_image | unfold s_restore | unfold s_as
         repeat' (first | rw [if_neg (by omega)] | rw [if_pos (by omega)] | rw [if_pos (by assumption)] | rw [if_neg (by assumption)])
         done)
      | (refine ⟨_, ?_, hF0, hM⟩
         first | unfold s_row | unfold s_set | unfold s_copy | unfold s_drop | unfold s_feed | unfold s_image | unfold s_restore | unfold s_as
         repeat' (first | rw [if_neg (by omega)] | rw [if_pos (by omega)] | rw [if_pos (by assumption)] | rw [if_neg (by assumption)])
         first | done | rfl)
      | (refine ⟨_, ?_, fun j hj => by rw [up_ne (by omega)]; exact hF0 j hj, hM.st⟩
         first | unfold s_row | unfold s_set | unfold s_copy | unfold s_drop | unfold s_feed | unfold s_image | unfold s_restore | unfold s_as
         repeat' (first | rw [if_neg (by omega)] | rw [if_pos (by omega)] | rw [if_pos (by assumption)] | rw [if_neg (by assumption)])
         first | done | rfl)
  · refine q_ldc (pc := 15) (n := -1000001) kX8_70 dX8_image_15 ?_
    refine q_ri (pc := 17) dX8_image_17 rfl ?_
    first
    | (refine ⟨A, ?_, hF0, hM⟩
       first | unfold s_row | unfold s_set | unfold s_copy | unfold s_drop | unfold s_feed | unfold s_image | unfold s_restore | unfold s_as
       repeat' (first | rw [if_neg (by omega)] | rw [if_pos (by omega)] | rw [if_pos (by assumption)] | rw [if_neg (by assumption)])
       done)
    | (refine ⟨_, ?_, hF0, hM⟩
       first | unfold s_row | unfold s_set | unfold s_copy | unfold s_drop | unfold s_feed | unfold s_image | unfold s_restore | unfold s_as
       repeat' (first | rw [if_neg (by omega)] | rw [if_pos (by omega)] | rw [if_pos (by assumption)] | rw [if_neg (by assumption)])
       first | done | rfl)
    | (refine ⟨_, ?_, fun j hj => by rw [up_ne (by omega)]; exact hF0 j hj, hM.st⟩
       first | unfold s_row | unfold s_set | unfold s_copy | unfold s_drop | unfold s_feed | unfold s_image | unfold s_restore | unfold s_as
       repeat' (first | rw [if_neg (by omega)] | rw [if_pos (by omega)] | rw [if_pos (by assumption)] | rw [if_neg (by assumption)])
       first | done | rfl)
theorem m_restore_l {k : Int} {f : Int → Int} {Q : Option qV → qM → Prop} (hk : 0 ≤ k ∧ k ≤ 1) (hf : ∀ j, 0 ≤ j → j < 34 → σ 94 (34 * k + j) = f j) (hx : ∀ σ1 x, Fr σ σ1 [86] → RwR σ1 86 f → qE G mX8_restore d 61 [(2, vi x), (0, vr 82), (1, vi k)] [] σ1 Q) : ∀ (m t : Nat) (σ' : qM), m + t = 34 → Fr σ σ' [86] → (∀ j, 0 ≤ j → j < (t : Int) → σ' 86 j = f j) → qE G mX8_restore d 32 [(2, vi t), (0, vr 82), (1, vi k)] [] σ' Q := by
  intro m
  induction m with
  | zero =>
    intro t σ' ht hF h
    refine q_iload_n (pc := 32) dX8_restore_32 rfl ?_
    refine q_bipush (pc := 33) dX8_restore_33 (by decide +kernel) ?_
    refine q_icmpge (pc := 35) (tgt := 61) dX8_restore_35 (by decide) (by omega) (by omega) (fun h35 => ?_) (fun h => absurd h (by omega))
    exact hx σ' t hF (fun j a b => h j a (by omega))
  | succ m ih =>
    intro t σ' ht hF h
    have e6 : σ' 94 (34 * k + t) = f t := by rw [hF 94 (by simp)]; exact hf t (by omega) (by omega)
    refine q_iload_n (pc := 32) dX8_restore_32 rfl ?_
    refine q_bipush (pc := 33) dX8_restore_33 (by decide +kernel) ?_
    refine q_icmpge (pc := 35) (tgt := 61) dX8_restore_35 (by decide) (by omega) (by omega) (fun h => absurd h (by omega)) (fun h35 => ?_)
    refine q_aload_n (pc := 38) dX8_restore_38 rfl ?_
    refine q_getR (pc := 39) dX8_restore_39 fX8_19 rfl rfl ?_
    refine q_iload_n (pc := 42) dX8_restore_42 rfl ?_
    refine q_aload_n (pc := 43) dX8_restore_43 rfl ?_
    refine q_getR (pc := 44) dX8_restore_44 fX8_44 rfl rfl ?_
    refine q_bipush (pc := 47) dX8_restore_47 (by decide +kernel) ?_
    refine q_iload_n (pc := 49) dX8_restore_49 rfl ?_
    refine q_imul (pc := 50) dX8_restore_50 ?_
    refine q_iload_n (pc := 51) dX8_restore_51 rfl ?_
    refine q_iadd (pc := 52) dX8_restore_52 ?_
    refine q_iald (pc := 53) dX8_restore_53 rfl (by omega) ?_
    refine q_iast (pc := 54) dX8_restore_54 rfl (by omega) ?_
    refine q_iinc (pc := 55) dX8_restore_55 rfl (Nat.le_of_ble_eq_true rfl) ?_
    refine q_goto (pc := 58) (tgt := 32) dX8_restore_58 (by decide) ?_
    have q := ih (t + 1) (up σ' 86 t (σ' 94 (34 * k + t))) (by omega) (hF.tt (Fr.up (by simp))) (fun j a b => ?_)
    · exact q_locs _ [0, 1, 2] rfl q
    · rw [up_same, e6]
      by_cases c : j = t
      · rw [if_pos c, c]
      · rw [if_neg c]
        exact h j a (by omega)
theorem m_restore {k : Int} (hM : MR σ A) (hV : AV A) (hk : -2147483648 ≤ k ∧ k ≤ 2147483647) : qE G mX8_restore (d + 2) 0 [(0, vr 82), (1, vi k)] [] σ (ri (pM σ (s_restore A k))) := by
  refine q_aload_n (pc := 0) dX8_restore_0 rfl ?_
  refine q_iconst (pc := 1) dX8_restore_1 ?_
  refine q_pI (pc := 2) 0 dX8_restore_2 wX8_50 rfl rfl rfl ?_
  have hM := hM.fld (i := 0) (v := 0) (by decide)
  have hF0 : ∀ j, j < 82 → up σ 82 0 0 j = σ j := fun j hj => up_ne (by omega)
  generalize up σ 82 0 0 = τ at hM hF0 ⊢
  refine q_iload_n (pc := 5) dX8_restore_5 rfl ?_
  refine q_i2l (pc := 6) dX8_restore_6 (by omega) ?_
  refine q_lconst0 (pc := 7) dX8_restore_7 ?_
  refine q_lconst1 (pc := 8) dX8_restore_8 ?_
  refine q_S3i (pc := 9) dX8_restore_9 vX8_60 (Nat.le_of_ble_eq_true rfl) (Nat.le_of_ble_eq_true rfl) (t_X8_in (by omega) (by omega) (by omega)) (fun r1 σ1 hc1 => ?_)
  obtain ⟨rfl, rfl⟩ := hc1
  refine q_ifneb (pc := 12) (tgt := 18) dX8_restore_12 (by decide) (fun h12 => ?_) (fun h12 => ?_)
  · refine q_aload_n (pc := 18) dX8_restore_18 rfl ?_
    refine q_getR (pc := 19) dX8_restore_19 fX8_40 rfl rfl ?_
    refine q_iload_n (pc := 22) dX8_restore_22 rfl ?_
    have hq := hM.2.2.2.2.2.2.1 k (by omega)
    have hq1 := hq.1
    have hv := (hV.2.2.2.2.2.2.1 k (by omega)).1
    refine q_zald (pc := 23) dX8_restore_23 rfl (by omega) ?_
    refine q_ifne (pc := 24) (tgt := 30) dX8_restore_24 (by decide) (by omega) (fun h24 => ?_) (fun h24 => ?_)
    · refine q_iconst (pc := 30) dX8_restore_30 ?_
      refine q_istore_n (pc := 31) dX8_restore_31 (Nat.le_of_ble_eq_true rfl) ?_
      refine m_restore_l (by omega) (hq.2 (by omega)) (fun σ1 x hF1 h1 => ?_) 34 0 τ rfl Fr.rf (fun j a b => by omega)
      refine q_aload_n (pc := 61) dX8_restore_61 rfl ?_
      refine q_iconst (pc := 62) dX8_restore_62 ?_
      refine q_pI (pc := 63) 9 dX8_restore_63 wX8_152 rfl rfl rfl ?_
      refine q_iconst (pc := 66) dX8_restore_66 ?_
      refine q_ri (pc := 67) dX8_restore_67 rfl ?_
      have e : s_restore A k = (1, A.2.2.2.2.2.2.1.2 k, [], A.2.2) := by
        unfold s_restore
        rw [if_pos (by omega), if_pos (by omega)]
      rw [e]
      have hM1 := hM.row hF1 (by decide) h1
      have hF : Fr σ1 (up σ1 82 9 0) [82, 89] := Fr.up (by simp)
      refine pM.go (fun j hj => by rw [up_ne (by omega), hF1.m (by decide) j hj, hF0 j hj]) (hM1.acts hF (fun i hi => by rw [up_same, if_neg hi]) ?_) rfl
      exact ⟨by rw [up_same, if_pos rfl]; rfl, fun i f hi => absurd hi (by simp)⟩
    · refine q_ldc (pc := 27) (n := -1000002) kX8_187 dX8_restore_27 ?_
      refine q_ri (pc := 29) dX8_restore_29 rfl ?_
      first
      | (refine ⟨A, ?_, hF0, hM⟩
         first | unfold s_row | unfold s_set | unfold s_copy | unfold s_drop | unfold s_feed | unfold s_image | unfold s_restore | unfold s_as
         repeat' (first | rw [if_neg (by omega)] | rw [if_pos (by omega)] | rw [if_pos (by assumption)] | rw [if_neg (by assumption)])
         done)
      | (refine ⟨_, ?_, hF0, hM⟩
         first | unfold s_row | unfold s_set | unfold s_copy | unfold s_drop | unfold s_feed | unfold s_image | unfold s_restore | unfold s_as
         repeat' (first | rw [if_neg (by omega)] | rw [if_pos (by omega)] | rw [if_pos (by assumption)] | rw [if_neg (by assumption)])
         first | done | rfl)
      | (refine ⟨_, ?_, fun j hj => by rw [up_ne (by omega)]; exact hF0 j hj, hM.st⟩
         first | unfold s_row | unfold s_set | unfold s_copy | unfold s_drop | unfold s_feed | unfold s_image | unfold s_restore | unfold s_as
         repeat' (first | rw [if_neg (by omega)] | rw [if_pos (by omega)] | rw [if_pos (by assumption)] | rw [if_neg (by assumption)])
         first | done | rfl)
  · refine q_ldc (pc := 15) (n := -1000001) kX8_70 dX8_restore_15 ?_
    refine q_ri (pc := 17) dX8_restore_17 rfl ?_
    first
    | (refine ⟨A, ?_, hF0, hM⟩
       first | unfold s_row | unfold s_set | unfold s_copy | unfold s_drop | unfold s_feed | unfold s_image | unfold s_restore | unfold s_as
       repeat' (first | rw [if_neg (by omega)] | rw [if_pos (by omega)] | rw [if_pos (by assumption)] | rw [if_neg (by assumption)])
       done)
    | (refine ⟨_, ?_, hF0, hM⟩
       first | unfold s_row | unfold s_set | unfold s_copy | unfold s_drop | unfold s_feed | unfold s_image | unfold s_restore | unfold s_as
       repeat' (first | rw [if_neg (by omega)] | rw [if_pos (by omega)] | rw [if_pos (by assumption)] | rw [if_neg (by assumption)])
       first | done | rfl)
    | (refine ⟨_, ?_, fun j hj => by rw [up_ne (by omega)]; exact hF0 j hj, hM.st⟩
       first | unfold s_row | unfold s_set | unfold s_copy | unfold s_drop | unfold s_feed | unfold s_image | unfold s_restore | unfold s_as
       repeat' (first | rw [if_neg (by omega)] | rw [if_pos (by omega)] | rw [if_pos (by assumption)] | rw [if_neg (by assumption)])
       first | done | rfl)
theorem t_X8_isOf {k c : Int} (hk : 1 ≤ k ∧ k ≤ 5) (hc : 0 ≤ c ∧ c ≤ 5) : qE G mX8_isOf d 0 [(0, vi k), (1, vi c)] [] σ (ri fun x σ1 => bi (mIs k c) = x ∧ σ = σ1) := by
  refine q_iload_n (pc := 0) dX8_isOf_0 rfl ?_
  refine q_ifeq (pc := 1) (tgt := 29) dX8_isOf_1 (by decide) (by omega) (fun h1 => ?_) (fun h1 => ?_)
  · refine q_iconst (pc := 29) dX8_isOf_29 ?_
    refine q_goto (pc := 30) (tgt := 34) dX8_isOf_30 (by decide) ?_
    refine q_rz (pc := 34) dX8_isOf_34 rfl (by first | exact bi_01 _ | omega) ?_
    refine ⟨?_, rfl⟩
    unfold bi mIs
    first
    | exact if_pos (by omega)
    | exact if_neg (by omega)
  · refine q_iload_n (pc := 4) dX8_isOf_4 rfl ?_
    refine q_iload_n (pc := 5) dX8_isOf_5 rfl ?_
    refine q_icmpeq (pc := 6) (tgt := 29) dX8_isOf_6 (by decide) (by omega) (by omega) (fun h6 => ?_) (fun h6 => ?_)
    · refine q_iconst (pc := 29) dX8_isOf_29 ?_
      refine q_goto (pc := 30) (tgt := 34) dX8_isOf_30 (by decide) ?_
      refine q_rz (pc := 34) dX8_isOf_34 rfl (by first | exact bi_01 _ | omega) ?_
      refine ⟨?_, rfl⟩
      unfold bi mIs
      first
      | exact if_pos (by omega)
      | exact if_neg (by omega)
    · refine q_iload_n (pc := 9) dX8_isOf_9 rfl ?_
      refine q_iconst (pc := 10) dX8_isOf_10 ?_
      refine q_icmpne (pc := 11) (tgt := 19) dX8_isOf_11 (by decide) (by omega) (by omega) (fun h11 => ?_) (fun h11 => ?_)
      · refine q_iload_n (pc := 19) dX8_isOf_19 rfl ?_
        refine q_iconst (pc := 20) dX8_isOf_20 ?_
        refine q_icmpne (pc := 21) (tgt := 33) dX8_isOf_21 (by decide) (by omega) (by omega) (fun h21 => ?_) (fun h21 => ?_)
        · refine q_iconst (pc := 33) dX8_isOf_33 ?_
          refine q_rz (pc := 34) dX8_isOf_34 rfl (by first | exact bi_01 _ | omega) ?_
          refine ⟨?_, rfl⟩
          unfold bi mIs
          first
          | exact if_pos (by omega)
          | exact if_neg (by omega)
        · refine q_iload_n (pc := 24) dX8_isOf_24 rfl ?_
          refine q_iconst (pc := 25) dX8_isOf_25 ?_
          refine q_icmpne (pc := 26) (tgt := 33) dX8_isOf_26 (by decide) (by omega) (by omega) (fun h26 => ?_) (fun h26 => ?_)
          · refine q_iconst (pc := 33) dX8_isOf_33 ?_
            refine q_rz (pc := 34) dX8_isOf_34 rfl (by first | exact bi_01 _ | omega) ?_
            refine ⟨?_, rfl⟩
            unfold bi mIs
            first
            | exact if_pos (by omega)
            | exact if_neg (by omega)
          · refine q_iconst (pc := 29) dX8_isOf_29 ?_
            refine q_goto (pc := 30) (tgt := 34) dX8_isOf_30 (by decide) ?_
            refine q_rz (pc := 34) dX8_isOf_34 rfl (by first | exact bi_01 _ | omega) ?_
            refine ⟨?_, rfl⟩
            unfold bi mIs
            first
            | exact if_pos (by omega)
            | exact if_neg (by omega)
      · refine q_iload_n (pc := 14) dX8_isOf_14 rfl ?_
        refine q_iconst (pc := 15) dX8_isOf_15 ?_
        refine q_icmplt (pc := 16) (tgt := 29) dX8_isOf_16 (by decide) (by omega) (by omega) (fun h16 => ?_) (fun h16 => ?_)
        · refine q_iconst (pc := 29) dX8_isOf_29 ?_
          refine q_goto (pc := 30) (tgt := 34) dX8_isOf_30 (by decide) ?_
          refine q_rz (pc := 34) dX8_isOf_34 rfl (by first | exact bi_01 _ | omega) ?_
          refine ⟨?_, rfl⟩
          unfold bi mIs
          first
          | exact if_pos (by omega)
          | exact if_neg (by omega)
        · refine q_iload_n (pc := 19) dX8_isOf_19 rfl ?_
          refine q_iconst (pc := 20) dX8_isOf_20 ?_
          refine q_icmpne (pc := 21) (tgt := 33) dX8_isOf_21 (by decide) (by omega) (by omega) (fun h21 => ?_) (fun h21 => ?_)
          · refine q_iconst (pc := 33) dX8_isOf_33 ?_
            refine q_rz (pc := 34) dX8_isOf_34 rfl (by first | exact bi_01 _ | omega) ?_
            refine ⟨?_, rfl⟩
            unfold bi mIs
            first
            | exact if_pos (by omega)
            | exact if_neg (by omega)
          · refine q_iload_n (pc := 24) dX8_isOf_24 rfl ?_
            refine q_iconst (pc := 25) dX8_isOf_25 ?_
            refine q_icmpne (pc := 26) (tgt := 33) dX8_isOf_26 (by decide) (by omega) (by omega) (fun h26 => ?_) (fun h26 => ?_)
            · refine q_iconst (pc := 33) dX8_isOf_33 ?_
              refine q_rz (pc := 34) dX8_isOf_34 rfl (by first | exact bi_01 _ | omega) ?_
              refine ⟨?_, rfl⟩
              unfold bi mIs
              first
              | exact if_pos (by omega)
              | exact if_neg (by omega)
            · refine q_iconst (pc := 29) dX8_isOf_29 ?_
              refine q_goto (pc := 30) (tgt := 34) dX8_isOf_30 (by decide) ?_
              refine q_rz (pc := 34) dX8_isOf_34 rfl (by first | exact bi_01 _ | omega) ?_
              refine ⟨?_, rfl⟩
              unfold bi mIs
              first
              | exact if_pos (by omega)
              | exact if_neg (by omega)
theorem m_as {i c : Int} (hM : MR σ A) (hV : AV A) (hi : -2147483648 ≤ i ∧ i ≤ 2147483647) (hc : -2147483648 ≤ c ∧ c ≤ 2147483647) : qE G mX8_as (d + 2) 0 [(0, vr 82), (1, vi i), (2, vi c)] [] σ (ri (pM σ (s_as A i c))) := by
  have hR := hV.1
  have h5 := hR.de
  refine q_aload_n (pc := 0) dX8_as_0 rfl ?_
  refine q_iconst (pc := 1) dX8_as_1 ?_
  refine q_pI (pc := 2) 0 dX8_as_2 wX8_50 rfl rfl rfl ?_
  have hM := hM.fld (i := 0) (v := 0) (by decide)
  have hF0 : ∀ j, j < 82 → up σ 82 0 0 j = σ j := fun j hj => up_ne (by omega)
  generalize up σ 82 0 0 = τ at hM hF0 ⊢
  refine q_aload_n (pc := 5) dX8_as_5 rfl ?_
  refine q_iload_n (pc := 6) dX8_as_6 rfl ?_
  refine q_V1i (pc := 7) dX8_as_7 vX8_196 rfl rfl (Nat.le_of_ble_eq_true rfl) (Nat.le_of_ble_eq_true rfl) (t_X8_isDeed hM.1 h5 (by omega)) (fun r1 σ1 hc1 => ?_)
  obtain ⟨rfl, rfl⟩ := hc1
  refine q_ifeqb (pc := 10) (tgt := 25) dX8_as_10 (by decide) (fun h10 => ?_) (fun h10 => ?_)
  · refine q_ldc (pc := 25) (n := -1000001) kX8_70 dX8_as_25 ?_
    refine q_ri (pc := 27) dX8_as_27 rfl ?_
    first
    | (refine ⟨A, ?_, hF0, hM⟩
       first | unfold s_row | unfold s_set | unfold s_copy | unfold s_drop | unfold s_feed | unfold s_image | unfold s_restore | unfold s_as
       repeat' (first | rw [if_neg (by omega)] | rw [if_pos (by omega)] | rw [if_pos (by assumption)] | rw [if_neg (by assumption)])
       done)
    | (refine ⟨_, ?_, hF0, hM⟩
       first | unfold s_row | unfold s_set | unfold s_copy | unfold s_drop | unfold s_feed | unfold s_image | unfold s_restore | unfold s_as
       repeat' (first | rw [if_neg (by omega)] | rw [if_pos (by omega)] | rw [if_pos (by assumption)] | rw [if_neg (by assumption)])
       first | done | rfl)
    | (refine ⟨_, ?_, fun j hj => by rw [up_ne (by omega)]; exact hF0 j hj, hM.st⟩
       first | unfold s_row | unfold s_set | unfold s_copy | unfold s_drop | unfold s_feed | unfold s_image | unfold s_restore | unfold s_as
       repeat' (first | rw [if_neg (by omega)] | rw [if_pos (by omega)] | rw [if_pos (by assumption)] | rw [if_neg (by assumption)])
       first | done | rfl)
  · refine q_iload_n (pc := 13) dX8_as_13 rfl ?_
    refine q_i2l (pc := 14) dX8_as_14 (by omega) ?_
    refine q_lconst0 (pc := 15) dX8_as_15 ?_
    refine q_ldc2 (pc := 16) (n := 5) kX8_263 dX8_as_16 ?_
    refine q_S3i (pc := 19) dX8_as_19 vX8_60 (Nat.le_of_ble_eq_true rfl) (Nat.le_of_ble_eq_true rfl) (t_X8_in (by omega) (by omega) (by omega)) (fun r2 σ2 hc2 => ?_)
    obtain ⟨rfl, rfl⟩ := hc2
    refine q_ifneb (pc := 22) (tgt := 28) dX8_as_22 (by decide) (fun h22 => ?_) (fun h22 => ?_)
    · refine q_aload_n (pc := 28) dX8_as_28 rfl ?_
      refine q_iconst (pc := 29) dX8_as_29 ?_
      refine q_pI (pc := 30) 1 dX8_as_30 wX8_54 rfl rfl rfl ?_
      have hM := hM.st (s := 0)
      have hF0 : ∀ j, j < 82 → up τ 82 1 0 j = σ j := fun j hj => by rw [up_ne (by omega)]; exact hF0 j hj
      generalize up τ 82 1 0 = τ at hM hF0 ⊢
      have hS : ShM τ A.2.2.2.2.1.1 A.2.2.2.2.1.2.1 A.2.2.2.2.1.2.2 := hM.2.2.2.2.1
      refine q_aload_n (pc := 33) dX8_as_33 rfl ?_
      refine q_getR (pc := 34) dX8_as_34 fX8_19 rfl rfl ?_
      refine q_iload_n (pc := 37) dX8_as_37 rfl ?_
      refine q_iconst (pc := 38) dX8_as_38 ?_
      refine q_S3i (pc := 39) dX8_as_39 vX8_172 (Nat.le_of_ble_eq_true rfl) (Nat.le_of_ble_eq_true rfl) (t_X8_of sh86 hM.1 (by omega) (by omega)) (fun r3 σ3 hc3 => ?_)
      obtain ⟨rfl, rfl⟩ := hc3
      have hk := (hR.d (i := i) (by omega) (by omega)).1
      rw [show 13 + 3 * i = 13 + 3 * i + 0 by omega] at hk
      refine q_iload_n (pc := 42) dX8_as_42 rfl ?_
      refine q_S2i (pc := 43) dX8_as_43 vX8_265 (Nat.le_of_ble_eq_true rfl) (Nat.le_of_ble_eq_true rfl) (t_X8_isOf hk (by omega)) (fun r4 σ4 hc4 => ?_)
      obtain ⟨rfl, rfl⟩ := hc4
      refine q_ifeqb (pc := 46) (tgt := 53) dX8_as_46 (by decide) (fun h46 => ?_) (fun h46 => ?_)
      · refine q_aload_n (pc := 53) dX8_as_53 rfl ?_
        refine q_iconst (pc := 54) dX8_as_54 ?_
        refine q_V1i (pc := 55) dX8_as_55 vX8_71 rfl rfl (Nat.le_of_ble_eq_true rfl) (Nat.le_of_ble_eq_true rfl) (t_X8_finding) (fun r5 σ5 hc5 => ?_)
        obtain ⟨rfl, rfl⟩ := hc5
        refine q_ri (pc := 58) dX8_as_58 rfl ?_
        first
        | (refine ⟨_, ?_, hF0, hM⟩
           unfold s_as
           rw [if_pos (by omega), if_pos (by rw [show 13 + 3 * i = 13 + 3 * i + 0 by omega]; assumption)])
        | (refine ⟨_, ?_, fun j hj => by rw [up_ne (by omega)]; exact hF0 j hj, hM.st⟩
           unfold s_as
           rw [if_pos (by omega), if_neg (by rw [show 13 + 3 * i = 13 + 3 * i + 0 by omega]; assumption)]
           rfl)
      · refine q_iload_n (pc := 49) dX8_as_49 rfl ?_
        refine q_goto (pc := 50) (tgt := 58) dX8_as_50 (by decide) ?_
        refine q_ri (pc := 58) dX8_as_58 rfl ?_
        first
        | (refine ⟨_, ?_, hF0, hM⟩
           unfold s_as
           rw [if_pos (by omega), if_pos (by rw [show 13 + 3 * i = 13 + 3 * i + 0 by omega]; assumption)])
        | (refine ⟨_, ?_, fun j hj => by rw [up_ne (by omega)]; exact hF0 j hj, hM.st⟩
           unfold s_as
           rw [if_pos (by omega), if_neg (by rw [show 13 + 3 * i = 13 + 3 * i + 0 by omega]; assumption)]
           rfl)
    · refine q_ldc (pc := 25) (n := -1000001) kX8_70 dX8_as_25 ?_
      refine q_ri (pc := 27) dX8_as_27 rfl ?_
      first
      | (refine ⟨A, ?_, hF0, hM⟩
         first | unfold s_row | unfold s_set | unfold s_copy | unfold s_drop | unfold s_feed | unfold s_image | unfold s_restore | unfold s_as
         repeat' (first | rw [if_neg (by omega)] | rw [if_pos (by omega)] | rw [if_pos (by assumption)] | rw [if_neg (by assumption)])
         done)
      | (refine ⟨_, ?_, hF0, hM⟩
         first | unfold s_row | unfold s_set | unfold s_copy | unfold s_drop | unfold s_feed | unfold s_image | unfold s_restore | unfold s_as
         repeat' (first | rw [if_neg (by omega)] | rw [if_pos (by omega)] | rw [if_pos (by assumption)] | rw [if_neg (by assumption)])
         first | done | rfl)
      | (refine ⟨_, ?_, fun j hj => by rw [up_ne (by omega)]; exact hF0 j hj, hM.st⟩
         first | unfold s_row | unfold s_set | unfold s_copy | unfold s_drop | unfold s_feed | unfold s_image | unfold s_restore | unfold s_as
         repeat' (first | rw [if_neg (by omega)] | rw [if_pos (by omega)] | rw [if_pos (by assumption)] | rw [if_neg (by assumption)])
         first | done | rfl)
end T8
