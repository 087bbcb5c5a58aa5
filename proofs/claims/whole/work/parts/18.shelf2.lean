/-! ===== NightLevel$Shelf: put, move, remove; NightLevel$Acts ===== -/
def mNar (l v : Int) : Int := if l = 0 then qi2b v else if l = 1 then qi2s v else v
theorem qi2b_in (v : Int) : -2147483648 ≤ qi2b v ∧ qi2b v ≤ 2147483647 := q32_in _
theorem qi2s_in (v : Int) : -2147483648 ≤ qi2s v ∧ qi2s v ≤ 2147483647 := q32_in _
theorem mNar_in {l v : Int} (h : -2147483648 ≤ v ∧ v ≤ 2147483647) : -2147483648 ≤ mNar l v ∧ mNar l v ≤ 2147483647 := by
  unfold mNar
  split
  · exact qi2b_in v
  · split
    · exact qi2s_in v
    · exact h
def itSet (it : Int → Int → Int) (r i v : Int) : Int → Int → Int := fun r' i' => if r' = r ∧ i' = i then v else it r' i'
def itMove (it : Int → Int → Int) (a i b j n : Int) : Int → Int → Int := fun r k => if r = b ∧ j ≤ k ∧ k < j + n then it a (i + (k - j)) else it r k
section T3
variable {G : qGl} {d : Nat} {σ : qM} {ln mn : Int → Int} {it : Int → Int → Int} {r : Int}
theorem mem_rows {r : Int} (h0 : 0 ≤ r ∧ r ≤ 7) : 5 + r.toNat ∈ [3, 4, 5, 6, 7, 8, 9, 10, 11, 12] := by
  simp only [List.mem_cons, List.not_mem_nil, or_false]
  omega
theorem ShC.set {i v : Int} (hC : ShC σ ln mn it) (h0 : 0 ≤ r ∧ r ≤ 7) : ShC (up σ (5 + r.toNat) i v) ln mn (itSet it r i v) := by
  intro r' h1 h2
  obtain ⟨c1, c2, c3⟩ := hC r' h1 h2
  rw [up_ne (show 3 ≠ 5 + r.toNat by omega), up_ne (show 4 ≠ 5 + r.toNat by omega)]
  refine ⟨c1, c2, fun i' hi hi2 => ?_⟩
  unfold up itSet
  by_cases q : r' = r
  · subst q
    simp only [true_and]
    rw [c3 i' hi hi2]
  · rw [if_neg (by omega), if_neg (by omega)]
    exact c3 i' hi hi2
theorem t_X3_put {i v : Int} (hC : ShC σ ln mn it) (hV : ShV ln mn it) (h0 : 0 ≤ r ∧ r ≤ 7) (hi : 0 ≤ i ∧ i < mn r) : qE G mX3_put d 0 [(0, vr 1), (1, vi r), (2, vi i), (3, vi v)] [] σ (ri fun x σ1 => mNar (ln r) v = x ∧ Fr σ σ1 [3, 4, 5, 6, 7, 8, 9, 10, 11, 12] ∧ ShC σ1 ln mn (itSet it r i (mNar (ln r) v))) := by
  obtain ⟨c1, c2, c3⟩ := hC r h0.1 h0.2
  obtain ⟨v1, v2, v3⟩ := hV r h0.1 h0.2
  have e1 := itm_at r.toNat (by omega)
  have e2 := itm_sh r.toNat (by omega)
  refine q_aload_n (pc := 0) dX3_put_0 rfl ?_
  refine q_getR (pc := 1) dX3_put_1 fX3_11 rfl rfl ?_
  refine q_iload_n (pc := 4) dX3_put_4 rfl ?_
  refine q_aald (pc := 5) dX3_put_5 rfl (by decide) (by omega) e1 ?_
  refine q_iload_n (pc := 6) dX3_put_6 rfl ?_
  refine q_aload_n (pc := 7) dX3_put_7 rfl ?_
  refine q_getR (pc := 8) dX3_put_8 fX3_14 rfl rfl ?_
  refine q_iload_n (pc := 11) dX3_put_11 rfl ?_
  refine q_iald (pc := 12) dX3_put_12 rfl (by omega) ?_
  refine q_ifne (pc := 13) (tgt := 21) dX3_put_13 (by decide) (by omega) (fun h13 => ?_) (fun h13 => ?_)
  · refine q_aload_n (pc := 21) dX3_put_21 rfl ?_
    refine q_getR (pc := 22) dX3_put_22 fX3_14 rfl rfl ?_
    refine q_iload_n (pc := 25) dX3_put_25 rfl ?_
    refine q_iald (pc := 26) dX3_put_26 rfl (by omega) ?_
    refine q_iconst (pc := 27) dX3_put_27 ?_
    refine q_icmpne (pc := 28) (tgt := 36) dX3_put_28 (by decide) (by omega) (by omega) (fun h28 => ?_) (fun h28 => ?_)
    · refine q_iload_n (pc := 36) dX3_put_36 rfl ?_
      refine q_iast (pc := 37) dX3_put_37 e2 (by omega) ?_
      refine q_aload_n (pc := 38) dX3_put_38 rfl ?_
      refine q_getR (pc := 39) dX3_put_39 fX3_11 rfl rfl ?_
      refine q_iload_n (pc := 42) dX3_put_42 rfl ?_
      refine q_aald (pc := 43) dX3_put_43 rfl (by decide) (by omega) e1 ?_
      refine q_iload_n (pc := 44) dX3_put_44 rfl ?_
      refine q_iald (pc := 45) dX3_put_45 e2 (by omega) ?_
      refine q_ri (pc := 46) dX3_put_46 rfl ?_
      first
      | (rw [up_same, if_pos rfl]
         have e : mNar (ln r) v = qi2b v := if_pos (by omega)
         rw [e]
         exact ⟨rfl, Fr.up (mem_rows h0), hC.set h0⟩)
      | (rw [up_same, if_pos rfl]
         have e : mNar (ln r) v = qi2s v := by unfold mNar; rw [if_neg (by omega), if_pos (by omega)]
         rw [e]
         exact ⟨rfl, Fr.up (mem_rows h0), hC.set h0⟩)
      | (rw [up_same, if_pos rfl]
         have e : mNar (ln r) v = v := by unfold mNar; rw [if_neg (by omega), if_neg (by omega)]
         rw [e]
         exact ⟨rfl, Fr.up (mem_rows h0), hC.set h0⟩)
    · refine q_iload_n (pc := 31) dX3_put_31 rfl ?_
      refine q_i2s (pc := 32) dX3_put_32 ?_
      refine q_goto (pc := 33) (tgt := 37) dX3_put_33 (by decide) ?_
      refine q_iast (pc := 37) dX3_put_37 e2 (by omega) ?_
      refine q_aload_n (pc := 38) dX3_put_38 rfl ?_
      refine q_getR (pc := 39) dX3_put_39 fX3_11 rfl rfl ?_
      refine q_iload_n (pc := 42) dX3_put_42 rfl ?_
      refine q_aald (pc := 43) dX3_put_43 rfl (by decide) (by omega) e1 ?_
      refine q_iload_n (pc := 44) dX3_put_44 rfl ?_
      refine q_iald (pc := 45) dX3_put_45 e2 (by omega) ?_
      refine q_ri (pc := 46) dX3_put_46 rfl ?_
      first
      | (rw [up_same, if_pos rfl]
         have e : mNar (ln r) v = qi2b v := if_pos (by omega)
         rw [e]
         exact ⟨rfl, Fr.up (mem_rows h0), hC.set h0⟩)
      | (rw [up_same, if_pos rfl]
         have e : mNar (ln r) v = qi2s v := by unfold mNar; rw [if_neg (by omega), if_pos (by omega)]
         rw [e]
         exact ⟨rfl, Fr.up (mem_rows h0), hC.set h0⟩)
      | (rw [up_same, if_pos rfl]
         have e : mNar (ln r) v = v := by unfold mNar; rw [if_neg (by omega), if_neg (by omega)]
         rw [e]
         exact ⟨rfl, Fr.up (mem_rows h0), hC.set h0⟩)
  · refine q_iload_n (pc := 16) dX3_put_16 rfl ?_
    refine q_i2b (pc := 17) dX3_put_17 ?_
    refine q_goto (pc := 18) (tgt := 37) dX3_put_18 (by decide) ?_
    refine q_iast (pc := 37) dX3_put_37 e2 (by omega) ?_
    refine q_aload_n (pc := 38) dX3_put_38 rfl ?_
    refine q_getR (pc := 39) dX3_put_39 fX3_11 rfl rfl ?_
    refine q_iload_n (pc := 42) dX3_put_42 rfl ?_
    refine q_aald (pc := 43) dX3_put_43 rfl (by decide) (by omega) e1 ?_
    refine q_iload_n (pc := 44) dX3_put_44 rfl ?_
    refine q_iald (pc := 45) dX3_put_45 e2 (by omega) ?_
    refine q_ri (pc := 46) dX3_put_46 rfl ?_
    first
    | (rw [up_same, if_pos rfl]
       have e : mNar (ln r) v = qi2b v := if_pos (by omega)
       rw [e]
       exact ⟨rfl, Fr.up (mem_rows h0), hC.set h0⟩)
    | (rw [up_same, if_pos rfl]
       have e : mNar (ln r) v = qi2s v := by unfold mNar; rw [if_neg (by omega), if_pos (by omega)]
       rw [e]
       exact ⟨rfl, Fr.up (mem_rows h0), hC.set h0⟩)
    | (rw [up_same, if_pos rfl]
       have e : mNar (ln r) v = v := by unfold mNar; rw [if_neg (by omega), if_neg (by omega)]
       rw [e]
       exact ⟨rfl, Fr.up (mem_rows h0), hC.set h0⟩)
theorem t_X3_move {a i b j n : Int} (hC : ShC σ ln mn it) (hV : ShV ln mn it) (ha : 0 ≤ a ∧ a ≤ 7) (hb : 0 ≤ b ∧ b ≤ 7) (hi : 0 ≤ i ∧ 0 ≤ j ∧ 0 ≤ n ∧ i + n ≤ mn a ∧ j + n ≤ mn b) : qE G mX3_move (d + 1) 0 [(0, vr 1), (1, vi a), (2, vi i), (3, vi b), (4, vi j), (5, vi n)] [] σ (ri fun x σ1 => n = x ∧ Fr σ σ1 [3, 4, 5, 6, 7, 8, 9, 10, 11, 12] ∧ ShC σ1 ln mn (itMove it a i b j n)) := by
  obtain ⟨v1, v2, v3⟩ := hV a ha.1 ha.2
  obtain ⟨w1, w2, w3⟩ := hV b hb.1 hb.2
  have e1 := itm_at a.toNat (by omega)
  have e2 := itm_sh a.toNat (by omega)
  have e3 := itm_at b.toNat (by omega)
  have e4 := itm_sh b.toNat (by omega)
  refine q_aload_n (pc := 0) dX3_move_0 rfl ?_
  refine q_getR (pc := 1) dX3_move_1 fX3_11 rfl rfl ?_
  refine q_iload_n (pc := 4) dX3_move_4 rfl ?_
  refine q_aald (pc := 5) dX3_move_5 rfl (by decide) (by omega) e1 ?_
  refine q_iload_n (pc := 6) dX3_move_6 rfl ?_
  refine q_aload_n (pc := 7) dX3_move_7 rfl ?_
  refine q_getR (pc := 8) dX3_move_8 fX3_11 rfl rfl ?_
  refine q_iload_n (pc := 11) dX3_move_11 rfl ?_
  refine q_aald (pc := 12) dX3_move_12 rfl (by decide) (by omega) e3 ?_
  refine q_iload (pc := 13) dX3_move_13 rfl ?_
  refine q_iload (pc := 15) dX3_move_15 rfl ?_
  refine q_copy (pc := 17) dX3_move_17 vX3_25 v_cp1 v_cp2 v_is e2 e4 (by omega) (by omega) (by omega) (by omega) (by omega) (Nat.le_of_ble_eq_true rfl) (by omega) ?_
  refine q_iload (pc := 20) dX3_move_20 rfl ?_
  refine q_ri (pc := 22) dX3_move_22 rfl ?_
  refine ⟨rfl, Fr.put (mem_rows hb), ?_⟩
  intro r' h1 h2
  obtain ⟨c1, c2, c3⟩ := hC r' h1 h2
  obtain ⟨c4, c5, c6⟩ := hC a ha.1 ha.2
  rw [put_ne (show 3 ≠ 5 + b.toNat by omega), put_ne (show 4 ≠ 5 + b.toNat by omega)]
  refine ⟨c1, c2, fun k hk hk2 => ?_⟩
  unfold itMove
  by_cases q : r' = b
  · subst q
    rw [put_same]
    unfold qcpy
    by_cases q2 : j ≤ k ∧ k < j + n
    · rw [if_pos q2, if_pos ⟨rfl, q2⟩, c6 _ (by omega) (by omega)]
    · rw [if_neg q2, if_neg (fun h => q2 h.2)]
      exact c3 k hk hk2
  · rw [put_ne (by omega), if_neg (fun h => q h.1)]
    exact c3 k hk hk2
theorem t_X3_remove (hC : ShC σ ln mn it) (h0 : 0 ≤ r ∧ r ≤ 7) : qE G mX3_remove d 0 [(0, vr 1), (1, vi r)] [] σ (ri fun x σ1 => mn r = x ∧ Fr σ σ1 [3, 4, 5, 6, 7, 8, 9, 10, 11, 12] ∧ ShC σ1 (u1 ln r (-1)) mn it) := by
  obtain ⟨c1, c2, c3⟩ := hC r h0.1 h0.2
  refine q_aload_n (pc := 0) dX3_remove_0 rfl ?_
  refine q_getR (pc := 1) dX3_remove_1 fX3_14 rfl rfl ?_
  refine q_iload_n (pc := 4) dX3_remove_4 rfl ?_
  refine q_iconst (pc := 5) dX3_remove_5 ?_
  refine q_iast (pc := 6) dX3_remove_6 rfl (by omega) ?_
  refine q_aload_n (pc := 7) dX3_remove_7 rfl ?_
  refine q_getR (pc := 8) dX3_remove_8 fX3_18 rfl rfl ?_
  refine q_iload_n (pc := 11) dX3_remove_11 rfl ?_
  refine q_iald (pc := 12) dX3_remove_12 rfl (by omega) ?_
  refine q_ri (pc := 13) dX3_remove_13 rfl ?_
  rw [up_ne (show (4 : Nat) ≠ 3 by decide), c2]
  refine ⟨rfl, Fr.up (by decide), ?_⟩
  intro r' h1 h2
  obtain ⟨c1, c2, c3⟩ := hC r' h1 h2
  rw [up_same, up_ne (show (4 : Nat) ≠ 3 by decide), up_ne (show 5 + r'.toNat ≠ 3 by omega), c1]
  exact ⟨rfl, c2, c3⟩
end T3
/-- what an act keeps of a row -/
def pr (f : Int → Int) : Int → Int := fun i => if i < 3 then f (7 + i) else if i < 6 then f (10 + (i - 3)) else if i < 13 then f (15 + 3 * (i - 6)) else if i = 13 then f 4 else f 6
/-- slot s of the ring holds a row -/
def PkR (σ : qM) (s : Int) (f : Int → Int) : Prop := ∀ j, 0 ≤ j → j < 15 → (6 ≤ j → j < 13 → j - 6 < f 5) → σ 45 (15 * s + j) = pr f j
def AcC (σ : qM) (as : List (Int → Int)) : Prop := (0 ≤ σ 44 1 ∧ σ 44 1 ≤ 23) ∧ σ 44 2 = as.length ∧ as.length ≤ 24 ∧ ∀ (i : Nat) (f : Int → Int), as[i]? = some f → PkR σ ((σ 44 1 + 23 - i) % 24) f
theorem SiR.keeps {σ : qM} {f : Int → Int} (h : SiR σ 15 f) {j : Int} (h0 : 0 ≤ j) (h1 : j < 15) (h2 : 6 ≤ j → j < 13 → j - 6 < f 5) : pk σ j = pr f j := by
  obtain ⟨⟨e0, e4, e5, e6⟩, e1, hS, hde⟩ := h
  unfold pk pr
  by_cases q1 : j < 3
  · rw [if_pos q1, if_pos q1]
    exact StR.h (k := 19) hS h0 (by omega)
  · rw [if_neg q1, if_neg q1]
    by_cases q2 : j < 6
    · rw [if_pos q2, if_pos q2]
      exact StR.s (k := 19) hS (by omega) (by omega)
    · rw [if_neg q2, if_neg q2]
      by_cases q3 : j < 13
      · rw [if_pos q3, if_pos q3]
        exact (hde (j - 6) (by omega) (h2 (by omega) q3)).2.2
      · rw [if_neg q3, if_neg q3, e4, e6]
section T0
variable {G : qGl} {d : Nat} {σ : qM} {f : Int → Int} {as : List (Int → Int)}
theorem t_X0_forget : qE G mX0_forget d 0 [(0, vr 44)] [] σ (rv fun σ1 => σ1 = up σ 44 2 0) := by
  refine q_aload_n (pc := 0) dX0_forget_0 rfl ?_
  refine q_iconst (pc := 1) dX0_forget_1 ?_
  refine q_pI (pc := 2) 2 dX0_forget_2 wX0_15 rfl rfl rfl ?_
  refine q_rv (pc := 5) dX0_forget_5 rfl ?_
  rfl
theorem t_X0_keep (hf : SiR σ 15 f) (hA : AcC σ as) : qE G mX0_keep (d + 2) 0 [(0, vr 44), (1, vr 15)] [] σ (rv fun σ1 => Fr σ σ1 [44, 45] ∧ AcC σ1 ((f :: as).take 24)) := by
  obtain ⟨a1, a2, a3, a4⟩ := hA
  refine q_aload_n (pc := 0) dX0_keep_0 rfl ?_
  refine q_aload_n (pc := 1) dX0_keep_1 rfl ?_
  refine q_getR (pc := 2) dX0_keep_2 fX0_11 rfl rfl ?_
  refine q_aload_n (pc := 5) dX0_keep_5 rfl ?_
  refine q_gI (pc := 6) 1 dX0_keep_6 fX0_19 rfl rfl rfl ?_
  refine q_bipush (pc := 9) dX0_keep_9 (by decide +kernel) ?_
  refine q_imul (pc := 11) dX0_keep_11 ?_
  refine q_V2v (pc := 12) dX0_keep_12 vX0_22 rfl rfl (Nat.le_of_ble_eq_true rfl) (Nat.le_of_ble_eq_true rfl) (t_X4_save (by omega)) (fun σ1 hc1 => ?_)
  obtain ⟨hF1, hk1⟩ := hc1
  have e44 : σ1 44 = σ 44 := hF1 44 (by decide)
  have e44a : σ1 44 1 = σ 44 1 := by rw [e44]
  have e44b : up σ1 44 1 ((σ1 44 1 + 1) % 24) 44 2 = σ 44 2 := by simp [up, e44]
  refine q_aload_n (pc := 15) dX0_keep_15 rfl ?_
  refine q_aload_n (pc := 16) dX0_keep_16 rfl ?_
  refine q_gI (pc := 17) 1 dX0_keep_17 fX0_19 rfl rfl rfl ?_
  refine q_iconst (pc := 20) dX0_keep_20 ?_
  refine q_iadd (pc := 21) dX0_keep_21 ?_
  refine q_bipush (pc := 22) dX0_keep_22 (by decide +kernel) ?_
  refine q_irem (pc := 24) dX0_keep_24 (by omega) ?_
  refine q_pI (pc := 25) 1 dX0_keep_25 wX0_19 rfl rfl rfl ?_
  refine q_aload_n (pc := 28) dX0_keep_28 rfl ?_
  refine q_bipush (pc := 29) dX0_keep_29 (by decide +kernel) ?_
  refine q_aload_n (pc := 31) dX0_keep_31 rfl ?_
  refine q_gI (pc := 32) 2 dX0_keep_32 fX0_15 rfl rfl rfl ?_
  refine q_iconst (pc := 35) dX0_keep_35 ?_
  refine q_iadd (pc := 36) dX0_keep_36 ?_
  refine q_min (pc := 37) dX0_keep_37 vX0_26 v_min1 v_im v_min2 (by omega) (by omega) (Nat.le_of_ble_eq_true rfl) (by omega) ?_
  refine q_pI (pc := 40) 2 dX0_keep_40 wX0_15 rfl rfl rfl ?_
  refine q_rv (pc := 43) dX0_keep_43 rfl ?_
  refine ⟨Fr.tt (Fr.tt (hF1.wk (by decide)) (Fr.up (by decide))) (Fr.up (by decide)), ?_⟩
  have n1 : up (up σ1 44 1 ((σ1 44 1 + 1) % 24)) 44 2 (if up σ1 44 1 ((σ1 44 1 + 1) % 24) 44 2 + 1 < 24 then up σ1 44 1 ((σ1 44 1 + 1) % 24) 44 2 + 1 else 24) 44 1 = (σ 44 1 + 1) % 24 := by simp [up, e44]
  have n2 : up (up σ1 44 1 ((σ1 44 1 + 1) % 24)) 44 2 (if up σ1 44 1 ((σ1 44 1 + 1) % 24) 44 2 + 1 < 24 then up σ1 44 1 ((σ1 44 1 + 1) % 24) 44 2 + 1 else 24) 44 2 = if σ 44 2 + 1 < 24 then σ 44 2 + 1 else 24 := by simp [up, e44]
  refine ⟨by rw [n1]; omega, ?_, by rw [List.length_take]; omega, fun i g hg => ?_⟩
  · rw [n2, List.length_take, List.length_cons]
    split <;> omega
  · have hi : i < 24 := by
      have := (List.getElem?_eq_some_iff.mp hg).1
      rw [List.length_take] at this
      omega
    rw [List.getElem?_take_of_lt hi] at hg
    rw [n1]
    intro j h0 h1 h2
    rw [up_ne (show (45 : Nat) ≠ 44 by decide), up_ne (show (45 : Nat) ≠ 44 by decide), hk1]
    cases i with
    | zero =>
      rw [List.getElem?_cons_zero] at hg
      cases hg
      rw [if_pos (by omega)]
      rw [show 15 * (((σ 44 1 + 1) % 24 + 23 - ((0 : Nat) : Int)) % 24) + j - σ 44 1 * 15 = j by omega]
      exact hf.keeps h0 h1 h2
    | succ i =>
      rw [List.getElem?_cons_succ] at hg
      rw [if_neg (by omega)]
      have := a4 i g hg j h0 h1 h2
      rw [← this]
      congr 1
      omega
theorem Row.de {f : Int → Int} (h : Row f) : 0 ≤ f 5 ∧ f 5 ≤ 7 := h.2.2.1
/-- the parts of a row that no act changes -/
def Same (f g : Int → Int) : Prop := g 0 = f 0 ∧ g 1 = f 1 ∧ g 2 = f 2 ∧ g 3 = f 3 ∧ g 5 = f 5 ∧ ∀ i, 0 ≤ i → i < f 5 → g (13 + 3 * i) = f (13 + 3 * i) ∧ g (14 + 3 * i) = f (14 + 3 * i)
theorem t_X0_takeBack {g : Int → Int} (hf : SiR σ 15 f) (hA : AcC σ (g :: as)) (hs : Same f g) (h7 : f 5 ≤ 7) : qE G mX0_takeBack (d + 2) 0 [(0, vr 44), (1, vr 15)] [] σ (rv fun σ1 => Fr σ σ1 [15, 18, 20, 21, 44] ∧ AcC σ1 as ∧ SiR σ1 15 g) := by
  obtain ⟨a1, a2, a3, a4⟩ := hA
  rw [List.length_cons] at a2 a3
  refine q_aload_n (pc := 0) dX0_takeBack_0 rfl ?_
  refine q_aload_n (pc := 1) dX0_takeBack_1 rfl ?_
  refine q_gI (pc := 2) 1 dX0_takeBack_2 fX0_19 rfl rfl rfl ?_
  refine q_bipush (pc := 5) dX0_takeBack_5 (by decide +kernel) ?_
  refine q_iadd (pc := 7) dX0_takeBack_7 ?_
  refine q_iconst (pc := 8) dX0_takeBack_8 ?_
  refine q_isub (pc := 9) dX0_takeBack_9 ?_
  refine q_bipush (pc := 10) dX0_takeBack_10 (by decide +kernel) ?_
  refine q_irem (pc := 12) dX0_takeBack_12 (by omega) ?_
  refine q_pI (pc := 13) 1 dX0_takeBack_13 wX0_19 rfl rfl rfl ?_
  refine q_aload_n (pc := 16) dX0_takeBack_16 rfl ?_
  refine q_aload_n (pc := 17) dX0_takeBack_17 rfl ?_
  refine q_getR (pc := 18) dX0_takeBack_18 fX0_11 rfl rfl ?_
  refine q_aload_n (pc := 21) dX0_takeBack_21 rfl ?_
  refine q_gI (pc := 22) 1 dX0_takeBack_22 fX0_19 rfl rfl rfl ?_
  have e45 : up σ 44 1 ((σ 44 1 + 24 - 1) % 24) 44 1 = (σ 44 1 + 24 - 1) % 24 := by simp [up]
  simp only [e45]
  refine q_bipush (pc := 25) dX0_takeBack_25 (by decide +kernel) ?_
  refine q_imul (pc := 27) dX0_takeBack_27 ?_
  refine q_V2v (pc := 28) dX0_takeBack_28 vX0_32 rfl rfl (Nat.le_of_ble_eq_true rfl) (Nat.le_of_ble_eq_true rfl) (t_X4_load (by omega)) (fun σ1 hc1 => ?_)
  obtain ⟨hF1, hk1, hl1⟩ := hc1
  refine q_aload_n (pc := 31) dX0_takeBack_31 rfl ?_
  refine q_dup (pc := 32) dX0_takeBack_32 rfl ?_
  refine q_gI (pc := 33) 2 dX0_takeBack_33 fX0_15 rfl rfl rfl ?_
  refine q_iconst (pc := 36) dX0_takeBack_36 ?_
  refine q_isub (pc := 37) dX0_takeBack_37 ?_
  refine q_pI (pc := 38) 2 dX0_takeBack_38 wX0_15 rfl rfl rfl ?_
  refine q_rv (pc := 41) dX0_takeBack_41 rfl ?_
  have e44 : σ1 44 = up σ 44 1 ((σ 44 1 + 24 - 1) % 24) 44 := hF1 44 (by decide)
  have e45' : σ1 45 = σ 45 := (hF1 45 (by decide)).trans (up_ne (by decide))
  have n1 : up σ1 44 2 (σ1 44 2 - 1) 44 1 = (σ 44 1 + 24 - 1) % 24 := by simp [up, e44]
  have n2 : up σ1 44 2 (σ1 44 2 - 1) 44 2 = σ 44 2 - 1 := by simp [up, e44]
  have h0 := a4 0 g rfl
  have p : ∀ i, 0 ≤ i → i < 15 → (6 ≤ i → i < 13 → i - 6 < g 5) → pk σ1 i = pr g i := by
    intro i h1 h2 h3
    rw [hk1 i h1 h2, up_ne (show (45 : Nat) ≠ 44 by decide), ← h0 i h1 h2 h3]
    congr 1
    omega
  obtain ⟨⟨e0, e4, e5, e6⟩, e1, hS, hde⟩ := id hf
  obtain ⟨s0, s1, s2, s3, s5, s6⟩ := id hs
  refine ⟨Fr.tt (Fr.tt (Fr.up (by decide)) (hF1.wk (by decide))) (Fr.up (by decide)), ⟨by rw [n1]; omega, by rw [n2]; omega, by omega, fun i g' hg => ?_⟩, ?_⟩
  · rw [n1]
    have := a4 (i + 1) g' (by rw [List.getElem?_cons_succ]; exact hg)
    intro j h1 h2 h3
    rw [up_ne (show (45 : Nat) ≠ 44 by decide), e45', ← this j h1 h2 h3]
    congr 1
    omega
  · have m15 : ∀ i, i ≠ 4 → i ≠ 6 → σ1 15 i = σ 15 i := fun i h4 h6 => (hl1 i h4 h6).trans (by rw [up_ne (show (15 : Nat) ≠ 44 by decide)])
    refine SiR.fr (σ := σ1) (S := [44]) ?_ (Fr.up (by decide)) (fun j h1 h2 => by simp; omega)
    refine ⟨⟨?_, ?_, ?_, ?_⟩, ?_, ⟨?_, ?_, ?_, ?_, ?_, ?_⟩, ?_⟩
    · rw [m15 0 (by decide) (by decide), e0, s0]
    · have := p 13 (by omega) (by omega) (fun h1 h2 => by omega)
      simpa [pk, pr] using this
    · rw [m15 5 (by decide) (by decide), e5, s5]
    · have := p 14 (by omega) (by omega) (fun h1 h2 => by omega)
      simpa [pk, pr] using this
    · intro hz
      obtain ⟨x1, x2, x3⟩ := e1 (by omega)
      rw [m15 1 (by decide) (by decide), m15 2 (by decide) (by decide), m15 3 (by decide) (by decide), x1, x2, x3, s1, s2, s3]
      exact ⟨rfl, rfl, rfl⟩
    · have := p 0 (by omega) (by omega) (fun h1 h2 => by omega)
      simpa [pk, pr] using this
    · have := p 1 (by omega) (by omega) (fun h1 h2 => by omega)
      simpa [pk, pr] using this
    · have := p 2 (by omega) (by omega) (fun h1 h2 => by omega)
      simpa [pk, pr] using this
    · have := p 3 (by omega) (by omega) (fun h1 h2 => by omega)
      simpa [pk, pr] using this
    · have := p 4 (by omega) (by omega) (fun h1 h2 => by omega)
      simpa [pk, pr] using this
    · have := p 5 (by omega) (by omega) (fun h1 h2 => by omega)
      simpa [pk, pr] using this
    · intro i h1 h2
      rw [s5] at h2
      obtain ⟨x1, x2, x3⟩ := hde i h1 h2
      obtain ⟨y1, y2⟩ := s6 i h1 h2
      have q16 : σ1 16 = σ 16 := (hF1 16 (by decide)).trans (up_ne (by decide))
      have q17 : σ1 17 = σ 17 := (hF1 17 (by decide)).trans (up_ne (by decide))
      refine ⟨?_, ?_, ?_⟩
      · show σ1 16 i = _
        rw [q16, y1]; exact x1
      · show σ1 17 i = _
        rw [q17, y2]; exact x2
      · have := p (6 + i) (by omega) (by omega) (fun h3 h4 => by omega)
        unfold pk pr at this
        rw [if_neg (by omega), if_neg (by omega), if_pos (by omega), if_neg (by omega), if_neg (by omega), if_pos (by omega)] at this
        rw [show 6 + i - 6 = i by omega] at this
        exact this
end T0
