/-! ===== NightLevel$Shelf ===== -/
def ShC (σ : qM) (ln mn : Int → Int) (it : Int → Int → Int) : Prop := ∀ r, 0 ≤ r → r ≤ 7 → σ 3 r = ln r ∧ σ 4 r = mn r ∧ ∀ i, 0 ≤ i → i < mn r → σ (5 + r.toNat) i = it r i
def ShM (σ : qM) (ln mn : Int → Int) (it : Int → Int → Int) : Prop := ∀ r, 0 ≤ r → r ≤ 7 → σ 83 r = ln r ∧ σ 84 r = mn r ∧ ∀ i, 0 ≤ i → i < mn r → σ 85 (40 * r + i) = it r i
def ShV (ln mn : Int → Int) (it : Int → Int → Int) : Prop := ∀ r, 0 ≤ r → r ≤ 7 → (-1 ≤ ln r ∧ ln r ≤ 2) ∧ (0 ≤ mn r ∧ mn r ≤ 40) ∧ ∀ i, 0 ≤ i → i < mn r → -2147483648 ≤ it r i ∧ it r i ≤ 2147483647
def mCnt (ln : Int → Int) : Nat → Int
  | 0 => 0
  | k + 1 => mCnt ln k + (if 0 ≤ ln k then 1 else 0)
theorem mCnt_in (ln : Int → Int) : ∀ k, 0 ≤ mCnt ln k ∧ mCnt ln k ≤ k
  | 0 => ⟨Int.le_refl 0, Int.le_refl 0⟩
  | k + 1 => by
    have h := mCnt_in ln k
    unfold mCnt
    split <;> omega
theorem itm_at : ∀ r : Nat, r < 8 → ([some 5, some 6, some 7, some 8, some 9, some 10, some 11, some 12] : List (Option Nat)).getD r none = some (5 + r) := by decide
theorem itm_sh : ∀ r : Nat, r < 8 → qSh (5 + r) = (1, 40, []) := by decide +kernel
theorem ShC.fr {σ σ' : qM} {ln mn : Int → Int} {it : Int → Int → Int} {S : List Nat} (h : ShC σ ln mn it) (hF : Fr σ σ' S) (hn : ∀ j, 3 ≤ j → j ≤ 12 → j ∉ S) : ShC σ' ln mn it := by
  intro r h0 h7
  rw [hF 3 (hn 3 (by omega) (by omega)), hF 4 (hn 4 (by omega) (by omega)), hF (5 + r.toNat) (hn _ (by omega) (by omega))]
  exact h r h0 h7
section T3
variable {G : qGl} {d : Nat} {σ : qM} {ln mn : Int → Int} {it : Int → Int → Int} {r : Int}
theorem t_X3_isRow (hr : -2147483648 ≤ r ∧ r ≤ 2147483647) : qE G mX3_isRow d 0 [(0, vr 1), (1, vi r)] [] σ (ri fun x σ1 => bi (0 ≤ r ∧ r ≤ 7) = x ∧ σ = σ1) := by
  refine q_iload_n (pc := 0) dX3_isRow_0 rfl ?_
  refine q_iflt (pc := 1) (tgt := 14) dX3_isRow_1 (by decide) (by omega) (fun h1 => ?_) (fun h1 => ?_)
  · refine q_iconst (pc := 14) dX3_isRow_14 ?_
    refine q_rz (pc := 15) dX3_isRow_15 rfl (by first | exact bi_01 _ | omega) ?_
    refine ⟨?_, rfl⟩
    unfold bi
    split <;> omega
  · refine q_iload_n (pc := 4) dX3_isRow_4 rfl ?_
    refine q_bipush (pc := 5) dX3_isRow_5 (by decide +kernel) ?_
    refine q_icmpge (pc := 7) (tgt := 14) dX3_isRow_7 (by decide) (by omega) (by omega) (fun h7 => ?_) (fun h7 => ?_)
    · refine q_iconst (pc := 14) dX3_isRow_14 ?_
      refine q_rz (pc := 15) dX3_isRow_15 rfl (by first | exact bi_01 _ | omega) ?_
      refine ⟨?_, rfl⟩
      unfold bi
      split <;> omega
    · refine q_iconst (pc := 10) dX3_isRow_10 ?_
      refine q_goto (pc := 11) (tgt := 15) dX3_isRow_11 (by decide) ?_
      refine q_rz (pc := 15) dX3_isRow_15 rfl (by first | exact bi_01 _ | omega) ?_
      refine ⟨?_, rfl⟩
      unfold bi
      split <;> omega
theorem t_X3_isMissing (hC : ShC σ ln mn it) (hV : ShV ln mn it) (h0 : 0 ≤ r ∧ r ≤ 7) : qE G mX3_isMissing d 0 [(0, vr 1), (1, vi r)] [] σ (ri fun x σ1 => bi (ln r < 0) = x ∧ σ = σ1) := by
  obtain ⟨c1, c2, c3⟩ := hC r h0.1 h0.2
  obtain ⟨v1, v2, v3⟩ := hV r h0.1 h0.2
  refine q_aload_n (pc := 0) dX3_isMissing_0 rfl ?_
  refine q_getR (pc := 1) dX3_isMissing_1 fX3_14 rfl rfl ?_
  refine q_iload_n (pc := 4) dX3_isMissing_4 rfl ?_
  refine q_iald (pc := 5) dX3_isMissing_5 rfl (by omega) ?_
  refine q_iconst (pc := 6) dX3_isMissing_6 ?_
  refine q_icmpne (pc := 7) (tgt := 14) dX3_isMissing_7 (by decide) (by omega) (by omega) (fun h7 => ?_) (fun h7 => ?_)
  · refine q_iconst (pc := 14) dX3_isMissing_14 ?_
    refine q_rz (pc := 15) dX3_isMissing_15 rfl (by first | exact bi_01 _ | omega) ?_
    refine ⟨?_, rfl⟩
    unfold bi
    split <;> omega
  · refine q_iconst (pc := 10) dX3_isMissing_10 ?_
    refine q_goto (pc := 11) (tgt := 15) dX3_isMissing_11 (by decide) ?_
    refine q_rz (pc := 15) dX3_isMissing_15 rfl (by first | exact bi_01 _ | omega) ?_
    refine ⟨?_, rfl⟩
    unfold bi
    split <;> omega
theorem t_X3_haveOneLane {a b : Int} (hC : ShC σ ln mn it) (hV : ShV ln mn it) (ha : 0 ≤ a ∧ a ≤ 7) (hb : 0 ≤ b ∧ b ≤ 7) : qE G mX3_haveOneLane d 0 [(0, vr 1), (1, vi a), (2, vi b)] [] σ (ri fun x σ1 => bi (ln a = ln b) = x ∧ σ = σ1) := by
  obtain ⟨c1, c2, c3⟩ := hC a ha.1 ha.2
  obtain ⟨v1, v2, v3⟩ := hV a ha.1 ha.2
  obtain ⟨c4, c5, c6⟩ := hC b hb.1 hb.2
  obtain ⟨v4, v5, v6⟩ := hV b hb.1 hb.2
  refine q_aload_n (pc := 0) dX3_haveOneLane_0 rfl ?_
  refine q_getR (pc := 1) dX3_haveOneLane_1 fX3_14 rfl rfl ?_
  refine q_iload_n (pc := 4) dX3_haveOneLane_4 rfl ?_
  refine q_iald (pc := 5) dX3_haveOneLane_5 rfl (by omega) ?_
  refine q_aload_n (pc := 6) dX3_haveOneLane_6 rfl ?_
  refine q_getR (pc := 7) dX3_haveOneLane_7 fX3_14 rfl rfl ?_
  refine q_iload_n (pc := 10) dX3_haveOneLane_10 rfl ?_
  refine q_iald (pc := 11) dX3_haveOneLane_11 rfl (by omega) ?_
  refine q_icmpne (pc := 12) (tgt := 19) dX3_haveOneLane_12 (by decide) (by omega) (by omega) (fun h12 => ?_) (fun h12 => ?_)
  · refine q_iconst (pc := 19) dX3_haveOneLane_19 ?_
    refine q_rz (pc := 20) dX3_haveOneLane_20 rfl (by first | exact bi_01 _ | omega) ?_
    refine ⟨?_, rfl⟩
    unfold bi
    split <;> omega
  · refine q_iconst (pc := 15) dX3_haveOneLane_15 ?_
    refine q_goto (pc := 16) (tgt := 20) dX3_haveOneLane_16 (by decide) ?_
    refine q_rz (pc := 20) dX3_haveOneLane_20 rfl (by first | exact bi_01 _ | omega) ?_
    refine ⟨?_, rfl⟩
    unfold bi
    split <;> omega
theorem t_X3_hasPlaces {i n : Int} (hC : ShC σ ln mn it) (hV : ShV ln mn it) (h0 : 0 ≤ r ∧ r ≤ 7) (hi : -2147483648 ≤ i ∧ i ≤ 2147483647) (hn : -2147483648 ≤ n ∧ n ≤ 2147483647) : qE G mX3_hasPlaces d 0 [(0, vr 1), (1, vi r), (2, vi i), (3, vi n)] [] σ (ri fun x σ1 => bi (0 ≤ i ∧ 0 ≤ n ∧ i + n ≤ mn r) = x ∧ σ = σ1) := by
  obtain ⟨c1, c2, c3⟩ := hC r h0.1 h0.2
  obtain ⟨v1, v2, v3⟩ := hV r h0.1 h0.2
  refine q_iload_n (pc := 0) dX3_hasPlaces_0 rfl ?_
  refine q_iflt (pc := 1) (tgt := 34) dX3_hasPlaces_1 (by decide) (by omega) (fun h1 => ?_) (fun h1 => ?_)
  · refine q_iconst (pc := 34) dX3_hasPlaces_34 ?_
    refine q_rz (pc := 35) dX3_hasPlaces_35 rfl (by first | exact bi_01 _ | omega) ?_
    refine ⟨?_, rfl⟩
    unfold bi
    split <;> omega
  · refine q_iload_n (pc := 4) dX3_hasPlaces_4 rfl ?_
    refine q_iflt (pc := 5) (tgt := 34) dX3_hasPlaces_5 (by decide) (by omega) (fun h5 => ?_) (fun h5 => ?_)
    · refine q_iconst (pc := 34) dX3_hasPlaces_34 ?_
      refine q_rz (pc := 35) dX3_hasPlaces_35 rfl (by first | exact bi_01 _ | omega) ?_
      refine ⟨?_, rfl⟩
      unfold bi
      split <;> omega
    · refine q_iload_n (pc := 8) dX3_hasPlaces_8 rfl ?_
      refine q_aload_n (pc := 9) dX3_hasPlaces_9 rfl ?_
      refine q_getR (pc := 10) dX3_hasPlaces_10 fX3_18 rfl rfl ?_
      refine q_iload_n (pc := 13) dX3_hasPlaces_13 rfl ?_
      refine q_iald (pc := 14) dX3_hasPlaces_14 rfl (by omega) ?_
      refine q_icmpgt (pc := 15) (tgt := 34) dX3_hasPlaces_15 (by decide) (by omega) (by omega) (fun h15 => ?_) (fun h15 => ?_)
      · refine q_iconst (pc := 34) dX3_hasPlaces_34 ?_
        refine q_rz (pc := 35) dX3_hasPlaces_35 rfl (by first | exact bi_01 _ | omega) ?_
        refine ⟨?_, rfl⟩
        unfold bi
        split <;> omega
      · refine q_iload_n (pc := 18) dX3_hasPlaces_18 rfl ?_
        refine q_aload_n (pc := 19) dX3_hasPlaces_19 rfl ?_
        refine q_getR (pc := 20) dX3_hasPlaces_20 fX3_18 rfl rfl ?_
        refine q_iload_n (pc := 23) dX3_hasPlaces_23 rfl ?_
        refine q_iald (pc := 24) dX3_hasPlaces_24 rfl (by omega) ?_
        refine q_iload_n (pc := 25) dX3_hasPlaces_25 rfl ?_
        refine q_isub (pc := 26) dX3_hasPlaces_26 ?_
        refine q_icmpgt (pc := 27) (tgt := 34) dX3_hasPlaces_27 (by decide) (by omega) (by omega) (fun h27 => ?_) (fun h27 => ?_)
        · refine q_iconst (pc := 34) dX3_hasPlaces_34 ?_
          refine q_rz (pc := 35) dX3_hasPlaces_35 rfl (by first | exact bi_01 _ | omega) ?_
          refine ⟨?_, rfl⟩
          unfold bi
          split <;> omega
        · refine q_iconst (pc := 30) dX3_hasPlaces_30 ?_
          refine q_goto (pc := 31) (tgt := 35) dX3_hasPlaces_31 (by decide) ?_
          refine q_rz (pc := 35) dX3_hasPlaces_35 rfl (by first | exact bi_01 _ | omega) ?_
          refine ⟨?_, rfl⟩
          unfold bi
          split <;> omega
theorem t_X3_howMany_l (hC : ShC σ ln mn it) (hV : ShV ln mn it) : ∀ (m k : Nat), k + m = 8 → qE G mX3_howMany (d + 1) 4 [(2, vi k), (1, vi (mCnt ln k)), (0, vr 1)] [] σ (ri fun x σ1 => mCnt ln 8 = x ∧ σ = σ1) := by
  intro m
  induction m with
  | zero =>
    intro k hk
    obtain rfl : k = 8 := by omega
    have hm := mCnt_in ln 8
    refine q_iload_n (pc := 4) dX3_howMany_4 rfl ?_
    refine q_bipush (pc := 5) dX3_howMany_5 (by decide +kernel) ?_
    refine q_icmpge (pc := 7) (tgt := 27) dX3_howMany_7 (by decide) (by omega) (by omega) (fun h7 => ?_) (fun h => absurd h (by omega))
    refine q_iload_n (pc := 27) dX3_howMany_27 rfl ?_
    refine q_ri (pc := 28) dX3_howMany_28 rfl ?_
    exact ⟨rfl, rfl⟩
  | succ m ih =>
    intro k hk
    have hm := mCnt_in ln k
    have hs : mCnt ln (k + 1) = mCnt ln k + (if 0 ≤ ln k then 1 else 0) := rfl
    refine q_iload_n (pc := 4) dX3_howMany_4 rfl ?_
    refine q_bipush (pc := 5) dX3_howMany_5 (by decide +kernel) ?_
    refine q_icmpge (pc := 7) (tgt := 27) dX3_howMany_7 (by decide) (by omega) (by omega) (fun h => absurd h (by omega)) (fun h7 => ?_)
    refine q_aload_n (pc := 10) dX3_howMany_10 rfl ?_
    refine q_iload_n (pc := 11) dX3_howMany_11 rfl ?_
    refine q_V1i (pc := 12) dX3_howMany_12 vX3_21 rfl rfl (Nat.le_of_ble_eq_true rfl) (Nat.le_of_ble_eq_true rfl) (t_X3_isMissing hC hV (by omega)) (fun r1 σ1 hc1 => ?_)
    obtain ⟨rfl, rfl⟩ := hc1
    refine q_ifneb (pc := 15) (tgt := 21) dX3_howMany_15 (by decide) (fun h15 => ?_) (fun h15 => ?_)
    · refine q_iinc (pc := 21) dX3_howMany_21 rfl (Nat.le_of_ble_eq_true rfl) ?_
      refine q_goto (pc := 24) (tgt := 4) dX3_howMany_24 (by decide) ?_
      first
      | (have e : (if (0 : Int) ≤ ln k then (1 : Int) else 0) = 0 := if_neg (by omega)
         rw [e, Int.add_zero] at hs
         have q := ih (k + 1) (by omega)
         rw [hs] at q
         exact q_locs _ [0, 1, 2] rfl q)
      | (have e : (if (0 : Int) ≤ ln k then (1 : Int) else 0) = 1 := if_pos (by omega)
         rw [e] at hs
         have q := ih (k + 1) (by omega)
         rw [hs] at q
         exact q_locs _ [0, 1, 2] rfl q)
    · refine q_iinc (pc := 18) dX3_howMany_18 rfl (Nat.le_of_ble_eq_true rfl) ?_
      refine q_iinc (pc := 21) dX3_howMany_21 rfl (Nat.le_of_ble_eq_true rfl) ?_
      refine q_goto (pc := 24) (tgt := 4) dX3_howMany_24 (by decide) ?_
      first
      | (have e : (if (0 : Int) ≤ ln k then (1 : Int) else 0) = 0 := if_neg (by omega)
         rw [e, Int.add_zero] at hs
         have q := ih (k + 1) (by omega)
         rw [hs] at q
         exact q_locs _ [0, 1, 2] rfl q)
      | (have e : (if (0 : Int) ≤ ln k then (1 : Int) else 0) = 1 := if_pos (by omega)
         rw [e] at hs
         have q := ih (k + 1) (by omega)
         rw [hs] at q
         exact q_locs _ [0, 1, 2] rfl q)
theorem t_X3_howMany (hC : ShC σ ln mn it) (hV : ShV ln mn it) : qE G mX3_howMany (d + 1) 0 [(0, vr 1)] [] σ (ri fun x σ1 => mCnt ln 8 = x ∧ σ = σ1) := by
  refine q_iconst (pc := 0) dX3_howMany_0 ?_
  refine q_istore_n (pc := 1) dX3_howMany_1 (Nat.le_of_ble_eq_true rfl) ?_
  refine q_iconst (pc := 2) dX3_howMany_2 ?_
  refine q_istore_n (pc := 3) dX3_howMany_3 (Nat.le_of_ble_eq_true rfl) ?_
  exact t_X3_howMany_l hC hV 8 0 rfl
theorem t_X3_make_l {l n : Int} {Q : Option qV → qM → Prop} (h0 : 0 ≤ r ∧ r ≤ 7) (hn : 0 ≤ n ∧ n ≤ 40) : ∀ (m : Nat) (i : Int) (σ : qM), n - i = m → 0 ≤ i → (∀ σ1, Fr σ σ1 [5 + r.toNat] → (∀ j, i ≤ j → j < n → σ1 (5 + r.toNat) j = 0) → (∀ j, j < i → σ1 (5 + r.toNat) j = σ (5 + r.toNat) j) → Q (some (vi n)) σ1) →
    qE G mX3_make d 17 [(4, vi i), (0, vr 1), (1, vi r), (2, vi l), (3, vi n)] [] σ Q := by
  intro m
  induction m with
  | zero =>
    intro i σ hm hi hx
    refine q_iload (pc := 17) dX3_make_17 rfl ?_
    refine q_iload_n (pc := 19) dX3_make_19 rfl ?_
    refine q_icmpge (pc := 20) (tgt := 39) dX3_make_20 (by decide) (by omega) (by omega) (fun h => ?_) (fun h => absurd h (by omega))
    refine q_iload_n (pc := 39) dX3_make_39 rfl ?_
    refine q_iret (pc := 40) dX3_make_40 rfl ?_
    exact hx σ Fr.rf (fun j h1 h2 => by omega) (fun j _ => rfl)
  | succ m ih =>
    intro i σ hm hi hx
    have e1 := itm_at r.toNat (by omega)
    have e2 := itm_sh r.toNat (by omega)
    refine q_iload (pc := 17) dX3_make_17 rfl ?_
    refine q_iload_n (pc := 19) dX3_make_19 rfl ?_
    refine q_icmpge (pc := 20) (tgt := 39) dX3_make_20 (by decide) (by omega) (by omega) (fun h => absurd h (by omega)) (fun h20 => ?_)
    refine q_aload_n (pc := 23) dX3_make_23 rfl ?_
    refine q_getR (pc := 24) dX3_make_24 fX3_11 rfl rfl ?_
    refine q_iload_n (pc := 27) dX3_make_27 rfl ?_
    refine q_aald (pc := 28) dX3_make_28 rfl (by decide) (by omega) e1 ?_
    refine q_iload (pc := 29) dX3_make_29 rfl ?_
    refine q_iconst (pc := 31) dX3_make_31 ?_
    refine q_iast (pc := 32) dX3_make_32 e2 (by omega) ?_
    refine q_iinc (pc := 33) dX3_make_33 rfl (Nat.le_of_ble_eq_true rfl) ?_
    refine q_goto (pc := 36) (tgt := 17) dX3_make_36 (by decide) ?_
    refine q_locs _ [0, 1, 2, 3, 4] rfl (ih (i + 1) _ (by omega) (by omega) (fun σ1 hF h1 h2 => hx σ1 (Fr.tt (Fr.up (by simp)) hF) (fun j h3 h4 => ?_) (fun j h3 => ?_)))
    · by_cases q : j = i
      · subst q
        rw [h2 j (by omega), up_same, if_pos rfl]
      · exact h1 j (by omega) h4
    · rw [h2 j (by omega), up_same, if_neg (by omega)]
theorem ShC.make {σ σ1 : qM} {l n : Int} (hC : ShC σ ln mn it) (h0 : 0 ≤ r ∧ r ≤ 7) (e3 : σ1 3 = u1 (σ 3) r l) (e4 : σ1 4 = u1 (σ 4) r n) (hF : Fr σ σ1 [3, 4, 5 + r.toNat]) (hz : ∀ j, 0 ≤ j → j < n → σ1 (5 + r.toNat) j = 0) : ShC σ1 (u1 ln r l) (u1 mn r n) (fun r' i => if r' = r then 0 else it r' i) := by
  intro r' h1 h2
  obtain ⟨c1, c2, c3⟩ := hC r' h1 h2
  rw [e3, e4]
  unfold u1
  by_cases q : r' = r
  · subst q
    simp only [if_true]
    exact ⟨trivial, trivial, hz⟩
  · simp only [q, if_false]
    refine ⟨c1, c2, fun i hi hi2 => ?_⟩
    rw [hF _ (by simp; omega)]
    exact c3 i hi hi2
theorem t_X3_make {l n : Int} (hC : ShC σ ln mn it) (h0 : 0 ≤ r ∧ r ≤ 7) (hl : 0 ≤ l ∧ l ≤ 2) (hn : 0 ≤ n ∧ n ≤ 40) : qE G mX3_make d 0 [(0, vr 1), (1, vi r), (2, vi l), (3, vi n)] [] σ (ri fun x σ1 => n = x ∧ Fr σ σ1 [3, 4, 5, 6, 7, 8, 9, 10, 11, 12] ∧ ShC σ1 (u1 ln r l) (u1 mn r n) (fun r' i => if r' = r then 0 else it r' i)) := by
  refine q_aload_n (pc := 0) dX3_make_0 rfl ?_
  refine q_getR (pc := 1) dX3_make_1 fX3_14 rfl rfl ?_
  refine q_iload_n (pc := 4) dX3_make_4 rfl ?_
  refine q_iload_n (pc := 5) dX3_make_5 rfl ?_
  refine q_iast (pc := 6) dX3_make_6 rfl (by omega) ?_
  refine q_aload_n (pc := 7) dX3_make_7 rfl ?_
  refine q_getR (pc := 8) dX3_make_8 fX3_18 rfl rfl ?_
  refine q_iload_n (pc := 11) dX3_make_11 rfl ?_
  refine q_iload_n (pc := 12) dX3_make_12 rfl ?_
  refine q_iast (pc := 13) dX3_make_13 rfl (by omega) ?_
  refine q_iconst (pc := 14) dX3_make_14 ?_
  refine q_istore (pc := 15) dX3_make_15 (Nat.le_of_ble_eq_true rfl) ?_
  refine q_locs _ [0, 1, 2, 3, 4] rfl (t_X3_make_l h0 hn n.toNat 0 _ (by omega) (by omega) (fun σ1 hF h1 h2 => ⟨n, rfl, rfl, ?_, ?_⟩))
  · refine Fr.tt (Fr.tt (Fr.up (by decide)) (Fr.up (by decide))) (hF.wk (fun j hj => ?_))
    simp only [List.mem_cons, List.not_mem_nil, or_false] at hj ⊢
    omega
  · refine ShC.make hC h0 ?_ ?_ (Fr.tt (Fr.tt (Fr.up (by simp)) (Fr.up (by simp))) (hF.wk (by simp))) h1
    · rw [hF 3 (by simp; omega)]
      funext j
      simp [up, u1]
    · rw [hF 4 (by simp; omega)]
      funext j
      simp [up, u1]
end T3
