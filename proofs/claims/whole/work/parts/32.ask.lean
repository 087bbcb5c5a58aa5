/-! ===== ask ===== -/
def tP (t : (Int → Int) × Int) (b : Int) : (Int → Int) × Int := if t.2 < 16 then (u1 t.1 t.2 b, t.2 + 1) else t
def tL (t : (Int → Int) × Int) (l : List Int) : (Int → Int) × Int := l.foldl tP t
def aTr (A : qA) (t : (Int → Int) × Int) : qA := (A.1, A.2.1, A.2.2.1, A.2.2.2.1, A.2.2.2.2.1, A.2.2.2.2.2.1, A.2.2.2.2.2.2.1, t)
def mWd (f : Int → Int) (i : Int) : Int := if f (13 + 3 * i) = 5 then 2 * (f (15 + 3 * i) - 100) else f (15 + 3 * i) - 100
def mM3 (f : Int → Int) (i : Int) : Int := i + f (7 + f (14 + 3 * i))
def mMk (f : Int → Int) (i : Int) : Int := if 4 ≤ f (13 + 3 * i) then i - mWd f i else if f (13 + 3 * i) = 1 then mM3 f i else if f (13 + 3 * i) = 3 then mM3 f i - 1000 else 2 * mM3 f i
def mSz (f : Int → Int) (i : Int) : Int := if 4 ≤ f (13 + 3 * i) then mWd f i else if f (13 + 3 * i) = 2 then -(f (15 + 3 * i) + mMk f i) else f (15 + 3 * i) + mMk f i
def lW (k : Int) : List Int := if k = 5 then [14, 13, 10] else [13, 10]
def lM (k : Int) : List Int := if 4 ≤ k then 23 :: 20 :: lW k else if k = 1 then [21, 20] else if k = 3 then [22, 21, 20] else [24, 21, 20]
def lS (k : Int) : List Int := if 4 ≤ k then lW k else if k = 2 then 12 :: 11 :: 10 :: lM k else 11 :: 10 :: lM k
def s_ask (A : qA) (i w : Int) : Int × qA := if (0 ≤ i ∧ i < A.1 5) ∧ (0 ≤ w ∧ w ≤ 1) then (if w = 0 then mSz A.1 i else mMk A.1 i, aTr A (tL (A.2.2.2.2.2.2.2.1, 0) (if w = 0 then lS (A.1 (13 + 3 * i)) else lM (A.1 (13 + 3 * i))))) else (-1000001, A)
def TV (t : (Int → Int) × Int) : Prop := (0 ≤ t.2 ∧ t.2 ≤ 16) ∧ ∀ j, 0 ≤ j → j < t.2 → 0 ≤ t.1 j ∧ t.1 j ≤ 100
theorem tP_v {t : (Int → Int) × Int} {b : Int} (h : TV t) (hb : 0 ≤ b ∧ b ≤ 100) : TV (tP t b) := by
  unfold tP
  split
  · refine ⟨by show 0 ≤ t.2 + 1 ∧ t.2 + 1 ≤ 16; have := h.1; omega, fun j h0 h1 => ?_⟩
    have h1 : j < t.2 + 1 := h1
    show 0 ≤ u1 t.1 t.2 b j ∧ u1 t.1 t.2 b j ≤ 100
    unfold u1
    split
    · exact hb
    · exact h.2 j h0 (by omega)
  · exact h
theorem tL_v : ∀ {l : List Int} {t : (Int → Int) × Int}, TV t → (∀ b ∈ l, 0 ≤ b ∧ b ≤ 100) → TV (tL t l)
  | [], _, h, _ => h
  | b :: l, t, h, hb => tL_v (l := l) (t := tP t b) (tP_v h (hb b (List.mem_cons_self ..))) (fun c hc => hb c (List.mem_cons_of_mem _ hc))
theorem AV.tr {A : qA} (h : AV A) {t : (Int → Int) × Int} (ht : TV t) : AV (aTr A t) := by
  obtain ⟨v1, v2, v3, v4, v5, v6, v7, v8⟩ := h
  exact ⟨v1, v2, v3, v4, v5, v6, v7, ht⟩
theorem lM_in (k : Int) : ∀ b ∈ lM k, 0 ≤ b ∧ b ≤ 100 := by
  unfold lM lW
  intro b hb
  repeat' split at hb
  all_goals (simp at hb; omega)
theorem lS_in (k : Int) : ∀ b ∈ lS k, 0 ≤ b ∧ b ≤ 100 := by
  unfold lS lM lW
  intro b hb
  repeat' split at hb
  all_goals (simp at hb; omega)
theorem av_ask {A : qA} (h : AV A) (i w : Int) : AV (s_ask A i w).2 := by
  unfold s_ask
  split
  · refine h.tr (tL_v ⟨by show (0 : Int) ≤ 0 ∧ (0 : Int) ≤ 16; omega, fun j h0 h1 => by have h1 : j < 0 := h1; omega⟩ ?_)
    split
    · exact lS_in _
    · exact lM_in _
  · exact h
section T1
variable {G : qGl} {d : Nat} {σ : qM} {A : qA}
theorem CR.tr {σ1 : qM} {t : (Int → Int) × Int} (h : CR σ A) (hF : Fr σ σ1 [80, 81]) (h1 : σ1 80 1 = t.2) (h2 : ∀ j, 0 ≤ j → j < t.2 → σ1 81 j = t.1 j) : CR σ1 (aTr A t) := by
  have n : ∀ j : Nat, j < 80 → j ∉ [80, 81] := fun j hj => by simp; omega
  have e : ∀ j : Nat, j < 80 → σ1 j = σ j := fun j hj => hF j (n j hj)
  obtain ⟨h1', h2', h3, h4, h5, h6, h7, h8⟩ := h
  refine ⟨h1'.fr hF (fun j a b => n j (by omega)), h2'.fr hF (n _ (by omega)) (n _ (by omega)), ?_, ?_, h5.fr hF (fun j a b => n j (by omega)), ?_, ⟨⟨?_, fun q => (h7.1.2 q).fr hF (fun j a b => n j (by omega))⟩, ?_, fun q => (h7.2.2 q).fr hF (fun j a b => n j (by omega))⟩, h1, h2⟩
  · rw [e 0 (by omega)]; exact h3
  · rw [e 0 (by omega)]; exact h4
  · rw [e 13 (by omega), e 14 (by omega)]; exact h6
  · rw [e 30 (by omega)]; exact h7.1.1
  · rw [e 37 (by omega)]; exact h7.2.1
theorem x_begin_pre {b i e : Int} {Q : Option qV → qM → Prop} (hC : CR σ A) (hV : AV A) (he : 0 ≤ e ∧ e ≤ 8) (hx : ∀ σ1, Fr σ σ1 [80, 81] → CR σ1 (aTr A (tP A.2.2.2.2.2.2.2 b)) → qE G mX1_begin d 35 [(0, vr 80), (1, vr 15), (2, vi i), (3, vi b), (4, vi e)] [] σ1 Q) : qE G mX1_begin d 0 [(0, vr 80), (1, vr 15), (2, vi i), (3, vi b), (4, vi e)] [] σ Q := by
  have e1 := hC.2.2.2.2.2.2.2.1
  have e2 := hC.2.2.2.2.2.2.2.2
  have v := hV.2.2.2.2.2.2.2.1
  refine q_iload (pc := 0) dX1_begin_0 rfl ?_
  refine q_bipush (pc := 2) dX1_begin_2 (by decide +kernel) ?_
  refine q_icmple (pc := 4) (tgt := 9) dX1_begin_4 (by decide) (by omega) (by omega) (fun h4 => ?_) (fun h => absurd h (by omega))
  refine q_aload_n (pc := 9) dX1_begin_9 rfl ?_
  refine q_gI (pc := 10) 1 dX1_begin_10 fX1_16 rfl rfl rfl ?_
  refine q_bipush (pc := 13) dX1_begin_13 (by decide +kernel) ?_
  refine q_icmpge (pc := 15) (tgt := 35) dX1_begin_15 (by decide) (by omega) (by omega) (fun h15 => ?_) (fun h15 => ?_)
  · first
    | (refine hx _ Fr.rf ?_
       have e3 : tP A.2.2.2.2.2.2.2 b = A.2.2.2.2.2.2.2 := by unfold tP; exact if_neg (by omega)
       rw [e3]
       exact hC.tr Fr.rf e1 e2)
    | (have hF : Fr σ (up (up σ 80 1 (σ 80 1 + 1)) 81 (σ 80 1) b) [80, 81] := Fr.tt (Fr.up (by simp)) (Fr.up (by simp))
       refine hx _ hF ?_
       have e3 : tP A.2.2.2.2.2.2.2 b = (u1 A.2.2.2.2.2.2.2.1 A.2.2.2.2.2.2.2.2 b, A.2.2.2.2.2.2.2.2 + 1) := by unfold tP; exact if_pos (by omega)
       rw [e3]
       refine hC.tr hF (by rw [up_ne (by omega), up_same, if_pos rfl, e1]) (fun j h0 h1 => ?_)
       have h1 : j < A.2.2.2.2.2.2.2.2 + 1 := h1
       rw [up_same, up_ne (by omega), e1]
       show _ = u1 _ _ b j
       unfold u1
       by_cases c : j = A.2.2.2.2.2.2.2.2
       · rw [if_pos c, if_pos c]
       · rw [if_neg c, if_neg c]; exact e2 j h0 (by omega))
  · refine q_aload_n (pc := 18) dX1_begin_18 rfl ?_
    refine q_getR (pc := 19) dX1_begin_19 fX1_9 rfl rfl ?_
    refine q_aload_n (pc := 22) dX1_begin_22 rfl ?_
    refine q_dup (pc := 23) dX1_begin_23 rfl ?_
    refine q_gI (pc := 24) 1 dX1_begin_24 fX1_16 rfl rfl rfl ?_
    refine q_dup_x1 (pc := 27) dX1_begin_27 rfl rfl ?_
    refine q_iconst (pc := 28) dX1_begin_28 ?_
    refine q_iadd (pc := 29) dX1_begin_29 ?_
    refine q_pI (pc := 30) 1 dX1_begin_30 wX1_16 rfl rfl rfl ?_
    refine q_iload_n (pc := 33) dX1_begin_33 rfl ?_
    refine q_iast (pc := 34) dX1_begin_34 rfl (by omega) ?_
    first
    | (refine hx _ Fr.rf ?_
       have e3 : tP A.2.2.2.2.2.2.2 b = A.2.2.2.2.2.2.2 := by unfold tP; exact if_neg (by omega)
       rw [e3]
       exact hC.tr Fr.rf e1 e2)
    | (have hF : Fr σ (up (up σ 80 1 (σ 80 1 + 1)) 81 (σ 80 1) b) [80, 81] := Fr.tt (Fr.up (by simp)) (Fr.up (by simp))
       refine hx _ hF ?_
       have e3 : tP A.2.2.2.2.2.2.2 b = (u1 A.2.2.2.2.2.2.2.1 A.2.2.2.2.2.2.2.2 b, A.2.2.2.2.2.2.2.2 + 1) := by unfold tP; exact if_pos (by omega)
       rw [e3]
       refine hC.tr hF (by rw [up_ne (by omega), up_same, if_pos rfl, e1]) (fun j h0 h1 => ?_)
       have h1 : j < A.2.2.2.2.2.2.2.2 + 1 := h1
       rw [up_same, up_ne (by omega), e1]
       show _ = u1 _ _ b j
       unfold u1
       by_cases c : j = A.2.2.2.2.2.2.2.2
       · rw [if_pos c, if_pos c]
       · rw [if_neg c, if_neg c]; exact e2 j h0 (by omega))
def mBd (k w : Int) : Int := if w = 0 then (if k = 2 then 12 else if k = 4 then 13 else if k = 5 then 14 else 11) else (if k = 2 then 24 else if k = 3 then 22 else if k < 4 then 21 else 23)
theorem qtb_1 {k : Int} (h : 0 ≤ k ∧ k ≤ 5) : qtb 1 k = if k = 0 then 10 else if k = 1 then 11 else if k = 2 then 12 else if k = 3 then 0 else if k = 4 then 13 else 14 := rfl
theorem qtb_2 {k : Int} (h : 0 ≤ k ∧ k ≤ 5) : qtb 2 k = if k = 0 then 20 else if k = 1 then 21 else if k = 2 then 24 else if k = 3 then 22 else if k = 4 then 23 else 0 := rfl
theorem t_X1_bodyFor {k w r : Int} (hk : 1 ≤ k ∧ k ≤ 5) (hw : 0 ≤ w ∧ w ≤ 1) (hr : mBd k w = r) : qE G mX1_bodyFor d 0 [(0, vi k), (1, vi w)] [] σ (ri fun x σ1 => r = x ∧ σ = σ1) := by
  have e0 := qtb_par (k := k) (by omega)
  have h0 : 0 ≤ qtb 0 k ∧ qtb 0 k ≤ 5 := by rw [e0]; split <;> (try split) <;> omega
  have e1 := qtb_1 (k := k) (by omega)
  have e2 := qtb_2 (k := k) (by omega)
  have e3 := qtb_1 h0
  have e4 := qtb_2 h0
  have h1 : 0 ≤ qtb 1 k ∧ qtb 1 k ≤ 30 := by rw [e1]; (repeat' split) <;> omega
  have h2 : 0 ≤ qtb 2 k ∧ qtb 2 k ≤ 30 := by rw [e2]; (repeat' split) <;> omega
  refine q_iload_n (pc := 0) dX1_bodyFor_0 rfl ?_
  refine q_ifne (pc := 1) (tgt := 10) dX1_bodyFor_1 (by decide) (by omega) (fun h1 => ?_) (fun h1 => ?_)
  · refine q_gets (pc := 10) (i := 2) dX1_bodyFor_10 (by decide) gX1_36 ?_
    refine q_astore_n (pc := 13) dX1_bodyFor_13 (Nat.le_of_ble_eq_true rfl) ?_
    refine q_aload_n (pc := 14) dX1_bodyFor_14 rfl ?_
    refine q_iload_n (pc := 15) dX1_bodyFor_15 rfl ?_
    refine q_tald (pc := 16) dX1_bodyFor_16 (by decide) (by omega) ?_
    refine q_ifeq (pc := 17) (tgt := 26) dX1_bodyFor_17 (by decide) (by omega) (fun h17 => ?_) (fun h17 => ?_)
    · refine q_aload_n (pc := 26) dX1_bodyFor_26 rfl ?_
      refine q_gets (pc := 27) (i := 0) dX1_bodyFor_27 (by decide) gX1_13 ?_
      refine q_iload_n (pc := 30) dX1_bodyFor_30 rfl ?_
      refine q_tald (pc := 31) dX1_bodyFor_31 (by decide) (by omega) ?_
      refine q_tald (pc := 32) dX1_bodyFor_32 (by decide) (by omega) ?_
      refine q_ri (pc := 33) dX1_bodyFor_33 rfl ?_
      refine ⟨?_, rfl⟩
      subst hr
      rcases (show k = 1 ∨ k = 2 ∨ k = 3 ∨ k = 4 ∨ k = 5 by omega) with rfl | rfl | rfl | rfl | rfl <;> rcases (show w = 0 ∨ w = 1 by omega) with rfl | rfl <;> first | rfl | (exfalso; omega) | (exfalso; revert h17; decide)
    · refine q_aload_n (pc := 20) dX1_bodyFor_20 rfl ?_
      refine q_iload_n (pc := 21) dX1_bodyFor_21 rfl ?_
      refine q_tald (pc := 22) dX1_bodyFor_22 (by decide) (by omega) ?_
      refine q_goto (pc := 23) (tgt := 33) dX1_bodyFor_23 (by decide) ?_
      refine q_ri (pc := 33) dX1_bodyFor_33 rfl ?_
      refine ⟨?_, rfl⟩
      subst hr
      rcases (show k = 1 ∨ k = 2 ∨ k = 3 ∨ k = 4 ∨ k = 5 by omega) with rfl | rfl | rfl | rfl | rfl <;> rcases (show w = 0 ∨ w = 1 by omega) with rfl | rfl <;> first | rfl | (exfalso; omega) | (exfalso; revert h17; decide)
  · refine q_gets (pc := 4) (i := 1) dX1_bodyFor_4 (by decide) gX1_33 ?_
    refine q_goto (pc := 7) (tgt := 13) dX1_bodyFor_7 (by decide) ?_
    refine q_astore_n (pc := 13) dX1_bodyFor_13 (Nat.le_of_ble_eq_true rfl) ?_
    refine q_aload_n (pc := 14) dX1_bodyFor_14 rfl ?_
    refine q_iload_n (pc := 15) dX1_bodyFor_15 rfl ?_
    refine q_tald (pc := 16) dX1_bodyFor_16 (by decide) (by omega) ?_
    refine q_ifeq (pc := 17) (tgt := 26) dX1_bodyFor_17 (by decide) (by omega) (fun h17 => ?_) (fun h17 => ?_)
    · refine q_aload_n (pc := 26) dX1_bodyFor_26 rfl ?_
      refine q_gets (pc := 27) (i := 0) dX1_bodyFor_27 (by decide) gX1_13 ?_
      refine q_iload_n (pc := 30) dX1_bodyFor_30 rfl ?_
      refine q_tald (pc := 31) dX1_bodyFor_31 (by decide) (by omega) ?_
      refine q_tald (pc := 32) dX1_bodyFor_32 (by decide) (by omega) ?_
      refine q_ri (pc := 33) dX1_bodyFor_33 rfl ?_
      refine ⟨?_, rfl⟩
      subst hr
      rcases (show k = 1 ∨ k = 2 ∨ k = 3 ∨ k = 4 ∨ k = 5 by omega) with rfl | rfl | rfl | rfl | rfl <;> rcases (show w = 0 ∨ w = 1 by omega) with rfl | rfl <;> first | rfl | (exfalso; omega) | (exfalso; revert h17; decide)
    · refine q_aload_n (pc := 20) dX1_bodyFor_20 rfl ?_
      refine q_iload_n (pc := 21) dX1_bodyFor_21 rfl ?_
      refine q_tald (pc := 22) dX1_bodyFor_22 (by decide) (by omega) ?_
      refine q_goto (pc := 23) (tgt := 33) dX1_bodyFor_23 (by decide) ?_
      refine q_ri (pc := 33) dX1_bodyFor_33 rfl ?_
      refine ⟨?_, rfl⟩
      subst hr
      rcases (show k = 1 ∨ k = 2 ∨ k = 3 ∨ k = 4 ∨ k = 5 by omega) with rfl | rfl | rfl | rfl | rfl <;> rcases (show w = 0 ∨ w = 1 by omega) with rfl | rfl <;> first | rfl | (exfalso; omega) | (exfalso; revert h17; decide)
abbrev bP (σ : qM) (A : qA) (v : Int) (l : List Int) : Option qV → qM → Prop := ri fun r σ1 => v = r ∧ Fr σ σ1 [80, 81] ∧ CR σ1 (aTr A (tL A.2.2.2.2.2.2.2 l))
theorem AV.tp (h : AV A) {b : Int} (hb : 0 ≤ b ∧ b ≤ 100) : AV (aTr A (tP A.2.2.2.2.2.2.2 b)) := h.tr (tP_v h.2.2.2.2.2.2.2 hb)
theorem x_b10 {i e : Int} (hC : CR σ A) (hV : AV A) (hi : 0 ≤ i ∧ i < A.1 5) (he : 0 ≤ e ∧ e ≤ 8) : qE G mX1_begin d 0 [(0, vr 80), (1, vr 15), (2, vi i), (3, vi 10), (4, vi e)] [] σ (bP σ A (A.1 (15 + 3 * i)) [10]) := by
  refine x_begin_pre hC hV (by omega) (fun σ0 hF0 hC0 => ?_)
  have h5 := hV.1.de
  refine q_iload (pc := 35) dX1_begin_35 rfl ?_
  refine q_iconst (pc := 37) dX1_begin_37 ?_
  refine q_iadd (pc := 38) dX1_begin_38 ?_
  refine q_istore (pc := 39) dX1_begin_39 (Nat.le_of_ble_eq_true rfl) ?_
  refine q_iload_n (pc := 41) dX1_begin_41 rfl ?_
  rcases (show (10:Int) = 10 ∨ (10:Int) = 11 ∨ (10:Int) = 12 ∨ (10:Int) = 13 ∨ (10:Int) = 14 ∨ (10:Int) = 15 ∨ (10:Int) = 16 ∨ (10:Int) = 17 ∨ (10:Int) = 18 ∨ (10:Int) = 19 ∨ (10:Int) = 20 ∨ (10:Int) = 21 ∨ (10:Int) = 22 ∨ (10:Int) = 23 ∨ (10:Int) = 24 ∨ ((10:Int) < 10 ∨ 24 < (10:Int)) by omega) with hs42 | hs42 | hs42 | hs42 | hs42 | hs42 | hs42 | hs42 | hs42 | hs42 | hs42 | hs42 | hs42 | hs42 | hs42 | hs42
  · refine q_tsIn (pc := 42) (off := 74) (tgt := 116) dX1_begin_42 (by omega) (by omega) (by omega) (by rw [hs42]; rfl) (by decide) ?_
    refine q_aload_n (pc := 116) dX1_begin_116 rfl ?_
    refine q_getR (pc := 117) dX1_begin_117 fX1_39 rfl rfl ?_
    refine q_iload_n (pc := 120) dX1_begin_120 rfl ?_
    refine q_iald (pc := 121) dX1_begin_121 rfl (by omega) ?_
    refine q_ri (pc := 122) dX1_begin_122 rfl ?_
    exact ⟨((hC0.1.2.2.2 i hi.1 hi.2).2.2).symm, hF0, hC0⟩
  · exfalso; omega
  · exfalso; omega
  · exfalso; omega
  · exfalso; omega
  · exfalso; omega
  · exfalso; omega
  · exfalso; omega
  · exfalso; omega
  · exfalso; omega
  · exfalso; omega
  · exfalso; omega
  · exfalso; omega
  · exfalso; omega
  · exfalso; omega
  · exfalso; omega
theorem x_b20 {i e : Int} (hC : CR σ A) (hV : AV A) (hi : 0 ≤ i ∧ i < A.1 5) (he : 0 ≤ e ∧ e ≤ 8) : qE G mX1_begin d 0 [(0, vr 80), (1, vr 15), (2, vi i), (3, vi 20), (4, vi e)] [] σ (bP σ A i [20]) := by
  refine x_begin_pre hC hV (by omega) (fun σ0 hF0 hC0 => ?_)
  refine q_iload (pc := 35) dX1_begin_35 rfl ?_
  refine q_iconst (pc := 37) dX1_begin_37 ?_
  refine q_iadd (pc := 38) dX1_begin_38 ?_
  refine q_istore (pc := 39) dX1_begin_39 (Nat.le_of_ble_eq_true rfl) ?_
  refine q_iload_n (pc := 41) dX1_begin_41 rfl ?_
  rcases (show (20:Int) = 10 ∨ (20:Int) = 11 ∨ (20:Int) = 12 ∨ (20:Int) = 13 ∨ (20:Int) = 14 ∨ (20:Int) = 15 ∨ (20:Int) = 16 ∨ (20:Int) = 17 ∨ (20:Int) = 18 ∨ (20:Int) = 19 ∨ (20:Int) = 20 ∨ (20:Int) = 21 ∨ (20:Int) = 22 ∨ (20:Int) = 23 ∨ (20:Int) = 24 ∨ ((20:Int) < 10 ∨ 24 < (20:Int)) by omega) with hs42 | hs42 | hs42 | hs42 | hs42 | hs42 | hs42 | hs42 | hs42 | hs42 | hs42 | hs42 | hs42 | hs42 | hs42 | hs42
  · exfalso; omega
  · exfalso; omega
  · exfalso; omega
  · exfalso; omega
  · exfalso; omega
  · exfalso; omega
  · exfalso; omega
  · exfalso; omega
  · exfalso; omega
  · exfalso; omega
  · refine q_tsIn (pc := 42) (off := 141) (tgt := 183) dX1_begin_42 (by omega) (by omega) (by omega) (by rw [hs42]; rfl) (by decide) ?_
    refine q_iload_n (pc := 183) dX1_begin_183 rfl ?_
    refine q_ri (pc := 184) dX1_begin_184 rfl ?_
    exact ⟨rfl, hF0, hC0⟩
  · exfalso; omega
  · exfalso; omega
  · exfalso; omega
  · exfalso; omega
  · exfalso; omega
theorem x_b13 {i e : Int} (hC : CR σ A) (hV : AV A) (hi : 0 ≤ i ∧ i < A.1 5) (he : 0 ≤ e ∧ e ≤ 7) : qE G mX1_begin (d + 1) 0 [(0, vr 80), (1, vr 15), (2, vi i), (3, vi 13), (4, vi e)] [] σ (bP σ A (A.1 (15+3*i) - 100) [13,10]) := by
  refine x_begin_pre hC hV (by omega) (fun σ0 hF0 hC0 => ?_)
  have hV0 := hV.tp (b := 13) (by omega)
  have h5 := hV.1.de
  refine q_iload (pc := 35) dX1_begin_35 rfl ?_
  refine q_iconst (pc := 37) dX1_begin_37 ?_
  refine q_iadd (pc := 38) dX1_begin_38 ?_
  refine q_istore (pc := 39) dX1_begin_39 (Nat.le_of_ble_eq_true rfl) ?_
  refine q_iload_n (pc := 41) dX1_begin_41 rfl ?_
  rcases (show (13:Int) = 10 ∨ (13:Int) = 11 ∨ (13:Int) = 12 ∨ (13:Int) = 13 ∨ (13:Int) = 14 ∨ (13:Int) = 15 ∨ (13:Int) = 16 ∨ (13:Int) = 17 ∨ (13:Int) = 18 ∨ (13:Int) = 19 ∨ (13:Int) = 20 ∨ (13:Int) = 21 ∨ (13:Int) = 22 ∨ (13:Int) = 23 ∨ (13:Int) = 24 ∨ ((13:Int) < 10 ∨ 24 < (13:Int)) by omega) with hs42 | hs42 | hs42 | hs42 | hs42 | hs42 | hs42 | hs42 | hs42 | hs42 | hs42 | hs42 | hs42 | hs42 | hs42 | hs42
  · exfalso; omega
  · exfalso; omega
  · exfalso; omega
  · refine q_tsIn (pc := 42) (off := 114) (tgt := 156) dX1_begin_42 (by omega) (by omega) (by omega) (by rw [hs42]; rfl) (by decide) ?_
    refine q_aload_n (pc := 156) dX1_begin_156 rfl ?_
    refine q_aload_n (pc := 157) dX1_begin_157 rfl ?_
    refine q_iload_n (pc := 158) dX1_begin_158 rfl ?_
    refine q_bipush (pc := 159) dX1_begin_159 (by decide +kernel) ?_
    refine q_iload (pc := 161) dX1_begin_161 rfl ?_
    refine q_V4i (pc := 163) dX1_begin_163 vX1_29 rfl rfl (Nat.le_of_ble_eq_true rfl) (Nat.le_of_ble_eq_true rfl) (x_b10 hC0 hV0 hi (by omega)) (fun r1 σ1 hc1 => ?_)
    obtain ⟨rfl, hF1, hC1⟩ := hc1
    refine q_bipush (pc := 166) dX1_begin_166 (by decide +kernel) ?_
    refine q_isub (pc := 168) dX1_begin_168 ?_
    refine q_ri (pc := 169) dX1_begin_169 rfl ?_
    exact ⟨rfl, hF0.tt hF1, hC1⟩
  · exfalso; omega
  · exfalso; omega
  · exfalso; omega
  · exfalso; omega
  · exfalso; omega
  · exfalso; omega
  · exfalso; omega
  · exfalso; omega
  · exfalso; omega
  · exfalso; omega
  · exfalso; omega
  · exfalso; omega
theorem x_b14 {i e : Int} (hC : CR σ A) (hV : AV A) (hi : 0 ≤ i ∧ i < A.1 5) (he : 0 ≤ e ∧ e ≤ 6) : qE G mX1_begin (d + 2) 0 [(0, vr 80), (1, vr 15), (2, vi i), (3, vi 14), (4, vi e)] [] σ (bP σ A (2*(A.1 (15+3*i) - 100)) [14,13,10]) := by
  refine x_begin_pre hC hV (by omega) (fun σ0 hF0 hC0 => ?_)
  have hV0 := hV.tp (b := 14) (by omega)
  have h5 := hV.1.de
  refine q_iload (pc := 35) dX1_begin_35 rfl ?_
  refine q_iconst (pc := 37) dX1_begin_37 ?_
  refine q_iadd (pc := 38) dX1_begin_38 ?_
  refine q_istore (pc := 39) dX1_begin_39 (Nat.le_of_ble_eq_true rfl) ?_
  refine q_iload_n (pc := 41) dX1_begin_41 rfl ?_
  rcases (show (14:Int) = 10 ∨ (14:Int) = 11 ∨ (14:Int) = 12 ∨ (14:Int) = 13 ∨ (14:Int) = 14 ∨ (14:Int) = 15 ∨ (14:Int) = 16 ∨ (14:Int) = 17 ∨ (14:Int) = 18 ∨ (14:Int) = 19 ∨ (14:Int) = 20 ∨ (14:Int) = 21 ∨ (14:Int) = 22 ∨ (14:Int) = 23 ∨ (14:Int) = 24 ∨ ((14:Int) < 10 ∨ 24 < (14:Int)) by omega) with hs42 | hs42 | hs42 | hs42 | hs42 | hs42 | hs42 | hs42 | hs42 | hs42 | hs42 | hs42 | hs42 | hs42 | hs42 | hs42
  · exfalso; omega
  · exfalso; omega
  · exfalso; omega
  · exfalso; omega
  · refine q_tsIn (pc := 42) (off := 128) (tgt := 170) dX1_begin_42 (by omega) (by omega) (by omega) (by rw [hs42]; rfl) (by decide) ?_
    refine q_iconst (pc := 170) dX1_begin_170 ?_
    refine q_aload_n (pc := 171) dX1_begin_171 rfl ?_
    refine q_aload_n (pc := 172) dX1_begin_172 rfl ?_
    refine q_iload_n (pc := 173) dX1_begin_173 rfl ?_
    refine q_bipush (pc := 174) dX1_begin_174 (by decide +kernel) ?_
    refine q_iload (pc := 176) dX1_begin_176 rfl ?_
    refine q_V4i (pc := 178) dX1_begin_178 vX1_29 rfl rfl (Nat.le_of_ble_eq_true rfl) (Nat.le_of_ble_eq_true rfl) (x_b13 hC0 hV0 hi (by omega)) (fun r1 σ1 hc1 => ?_)
    obtain ⟨rfl, hF1, hC1⟩ := hc1
    refine q_imul (pc := 181) dX1_begin_181 ?_
    refine q_ri (pc := 182) dX1_begin_182 rfl ?_
    exact ⟨rfl, hF0.tt hF1, hC1⟩
  · exfalso; omega
  · exfalso; omega
  · exfalso; omega
  · exfalso; omega
  · exfalso; omega
  · exfalso; omega
  · exfalso; omega
  · exfalso; omega
  · exfalso; omega
  · exfalso; omega
  · exfalso; omega
theorem x_b21 {i e : Int} (hC : CR σ A) (hV : AV A) (hi : 0 ≤ i ∧ i < A.1 5) (he : 0 ≤ e ∧ e ≤ 7) : qE G mX1_begin (d + 1) 0 [(0, vr 80), (1, vr 15), (2, vi i), (3, vi 21), (4, vi e)] [] σ (bP σ A (mM3 A.1 i) [21,20]) := by
  refine x_begin_pre hC hV (by omega) (fun σ0 hF0 hC0 => ?_)
  have hV0 := hV.tp (b := 21) (by omega)
  have h5 := hV.1.de
  refine q_iload (pc := 35) dX1_begin_35 rfl ?_
  refine q_iconst (pc := 37) dX1_begin_37 ?_
  refine q_iadd (pc := 38) dX1_begin_38 ?_
  refine q_istore (pc := 39) dX1_begin_39 (Nat.le_of_ble_eq_true rfl) ?_
  refine q_iload_n (pc := 41) dX1_begin_41 rfl ?_
  rcases (show (21:Int) = 10 ∨ (21:Int) = 11 ∨ (21:Int) = 12 ∨ (21:Int) = 13 ∨ (21:Int) = 14 ∨ (21:Int) = 15 ∨ (21:Int) = 16 ∨ (21:Int) = 17 ∨ (21:Int) = 18 ∨ (21:Int) = 19 ∨ (21:Int) = 20 ∨ (21:Int) = 21 ∨ (21:Int) = 22 ∨ (21:Int) = 23 ∨ (21:Int) = 24 ∨ ((21:Int) < 10 ∨ 24 < (21:Int)) by omega) with hs42 | hs42 | hs42 | hs42 | hs42 | hs42 | hs42 | hs42 | hs42 | hs42 | hs42 | hs42 | hs42 | hs42 | hs42 | hs42
  · exfalso; omega
  · exfalso; omega
  · exfalso; omega
  · exfalso; omega
  · exfalso; omega
  · exfalso; omega
  · exfalso; omega
  · exfalso; omega
  · exfalso; omega
  · exfalso; omega
  · exfalso; omega
  · refine q_tsIn (pc := 42) (off := 143) (tgt := 185) dX1_begin_42 (by omega) (by omega) (by omega) (by rw [hs42]; rfl) (by decide) ?_
    refine q_aload_n (pc := 185) dX1_begin_185 rfl ?_
    refine q_aload_n (pc := 186) dX1_begin_186 rfl ?_
    refine q_iload_n (pc := 187) dX1_begin_187 rfl ?_
    refine q_bipush (pc := 188) dX1_begin_188 (by decide +kernel) ?_
    refine q_iload (pc := 190) dX1_begin_190 rfl ?_
    refine q_V4i (pc := 192) dX1_begin_192 vX1_29 rfl rfl (Nat.le_of_ble_eq_true rfl) (Nat.le_of_ble_eq_true rfl) (x_b20 hC0 hV0 hi (by omega)) (fun r1 σ1 hc1 => ?_)
    obtain ⟨rfl, hF1, hC1⟩ := hc1
    have ef : σ1 17 i = A.1 (14 + 3 * i) := (hC1.1.2.2.2 i hi.1 hi.2).2.1
    have hd := hV.1.d hi.1 hi.2
    have eh : σ1 20 (σ1 17 i) = A.1 (7 + A.1 (14 + 3 * i)) := by rw [ef]; exact hC1.1.2.2.1.h hd.2.1.1 hd.2.1.2
    refine q_aload_n (pc := 195) dX1_begin_195 rfl ?_
    refine q_getR (pc := 196) dX1_begin_196 fX1_45 rfl rfl ?_
    refine q_getR (pc := 199) dX1_begin_199 fX1_49 rfl rfl ?_
    refine q_aload_n (pc := 202) dX1_begin_202 rfl ?_
    refine q_getR (pc := 203) dX1_begin_203 fX1_54 rfl rfl ?_
    refine q_iload_n (pc := 206) dX1_begin_206 rfl ?_
    refine q_iald (pc := 207) dX1_begin_207 rfl (by omega) ?_
    refine q_iald (pc := 208) dX1_begin_208 rfl (by omega) ?_
    refine q_iadd (pc := 209) dX1_begin_209 ?_
    refine q_ri (pc := 210) dX1_begin_210 rfl ?_
    exact ⟨by rw [eh]; rfl, hF0.tt hF1, hC1⟩
  · exfalso; omega
  · exfalso; omega
  · exfalso; omega
  · exfalso; omega
theorem x_b22 {i e : Int} (hC : CR σ A) (hV : AV A) (hi : 0 ≤ i ∧ i < A.1 5) (he : 0 ≤ e ∧ e ≤ 6) : qE G mX1_begin (d + 2) 0 [(0, vr 80), (1, vr 15), (2, vi i), (3, vi 22), (4, vi e)] [] σ (bP σ A (mM3 A.1 i - 1000) [22,21,20]) := by
  refine x_begin_pre hC hV (by omega) (fun σ0 hF0 hC0 => ?_)
  have hV0 := hV.tp (b := 22) (by omega)
  have h5 := hV.1.de
  refine q_iload (pc := 35) dX1_begin_35 rfl ?_
  refine q_iconst (pc := 37) dX1_begin_37 ?_
  refine q_iadd (pc := 38) dX1_begin_38 ?_
  refine q_istore (pc := 39) dX1_begin_39 (Nat.le_of_ble_eq_true rfl) ?_
  refine q_iload_n (pc := 41) dX1_begin_41 rfl ?_
  rcases (show (22:Int) = 10 ∨ (22:Int) = 11 ∨ (22:Int) = 12 ∨ (22:Int) = 13 ∨ (22:Int) = 14 ∨ (22:Int) = 15 ∨ (22:Int) = 16 ∨ (22:Int) = 17 ∨ (22:Int) = 18 ∨ (22:Int) = 19 ∨ (22:Int) = 20 ∨ (22:Int) = 21 ∨ (22:Int) = 22 ∨ (22:Int) = 23 ∨ (22:Int) = 24 ∨ ((22:Int) < 10 ∨ 24 < (22:Int)) by omega) with hs42 | hs42 | hs42 | hs42 | hs42 | hs42 | hs42 | hs42 | hs42 | hs42 | hs42 | hs42 | hs42 | hs42 | hs42 | hs42
  · exfalso; omega
  · exfalso; omega
  · exfalso; omega
  · exfalso; omega
  · exfalso; omega
  · exfalso; omega
  · exfalso; omega
  · exfalso; omega
  · exfalso; omega
  · exfalso; omega
  · exfalso; omega
  · exfalso; omega
  · refine q_tsIn (pc := 42) (off := 169) (tgt := 211) dX1_begin_42 (by omega) (by omega) (by omega) (by rw [hs42]; rfl) (by decide) ?_
    refine q_aload_n (pc := 211) dX1_begin_211 rfl ?_
    refine q_aload_n (pc := 212) dX1_begin_212 rfl ?_
    refine q_iload_n (pc := 213) dX1_begin_213 rfl ?_
    refine q_bipush (pc := 214) dX1_begin_214 (by decide +kernel) ?_
    refine q_iload (pc := 216) dX1_begin_216 rfl ?_
    refine q_V4i (pc := 218) dX1_begin_218 vX1_29 rfl rfl (Nat.le_of_ble_eq_true rfl) (Nat.le_of_ble_eq_true rfl) (x_b21 hC0 hV0 hi (by omega)) (fun r1 σ1 hc1 => ?_)
    obtain ⟨rfl, hF1, hC1⟩ := hc1
    refine q_sipush (pc := 221) dX1_begin_221 (by decide +kernel) ?_
    refine q_isub (pc := 224) dX1_begin_224 ?_
    refine q_ri (pc := 225) dX1_begin_225 rfl ?_
    exact ⟨rfl, hF0.tt hF1, hC1⟩
  · exfalso; omega
  · exfalso; omega
  · exfalso; omega
theorem x_b24 {i e : Int} (hC : CR σ A) (hV : AV A) (hi : 0 ≤ i ∧ i < A.1 5) (he : 0 ≤ e ∧ e ≤ 6) : qE G mX1_begin (d + 2) 0 [(0, vr 80), (1, vr 15), (2, vi i), (3, vi 24), (4, vi e)] [] σ (bP σ A (2*mM3 A.1 i) [24,21,20]) := by
  refine x_begin_pre hC hV (by omega) (fun σ0 hF0 hC0 => ?_)
  have hV0 := hV.tp (b := 24) (by omega)
  have h5 := hV.1.de
  refine q_iload (pc := 35) dX1_begin_35 rfl ?_
  refine q_iconst (pc := 37) dX1_begin_37 ?_
  refine q_iadd (pc := 38) dX1_begin_38 ?_
  refine q_istore (pc := 39) dX1_begin_39 (Nat.le_of_ble_eq_true rfl) ?_
  refine q_iload_n (pc := 41) dX1_begin_41 rfl ?_
  rcases (show (24:Int) = 10 ∨ (24:Int) = 11 ∨ (24:Int) = 12 ∨ (24:Int) = 13 ∨ (24:Int) = 14 ∨ (24:Int) = 15 ∨ (24:Int) = 16 ∨ (24:Int) = 17 ∨ (24:Int) = 18 ∨ (24:Int) = 19 ∨ (24:Int) = 20 ∨ (24:Int) = 21 ∨ (24:Int) = 22 ∨ (24:Int) = 23 ∨ (24:Int) = 24 ∨ ((24:Int) < 10 ∨ 24 < (24:Int)) by omega) with hs42 | hs42 | hs42 | hs42 | hs42 | hs42 | hs42 | hs42 | hs42 | hs42 | hs42 | hs42 | hs42 | hs42 | hs42 | hs42
  · exfalso; omega
  · exfalso; omega
  · exfalso; omega
  · exfalso; omega
  · exfalso; omega
  · exfalso; omega
  · exfalso; omega
  · exfalso; omega
  · exfalso; omega
  · exfalso; omega
  · exfalso; omega
  · exfalso; omega
  · exfalso; omega
  · exfalso; omega
  · refine q_tsIn (pc := 42) (off := 205) (tgt := 247) dX1_begin_42 (by omega) (by omega) (by omega) (by rw [hs42]; rfl) (by decide) ?_
    refine q_iconst (pc := 247) dX1_begin_247 ?_
    refine q_aload_n (pc := 248) dX1_begin_248 rfl ?_
    refine q_aload_n (pc := 249) dX1_begin_249 rfl ?_
    refine q_iload_n (pc := 250) dX1_begin_250 rfl ?_
    refine q_bipush (pc := 251) dX1_begin_251 (by decide +kernel) ?_
    refine q_iload (pc := 253) dX1_begin_253 rfl ?_
    refine q_V4i (pc := 255) dX1_begin_255 vX1_29 rfl rfl (Nat.le_of_ble_eq_true rfl) (Nat.le_of_ble_eq_true rfl) (x_b21 hC0 hV0 hi (by omega)) (fun r1 σ1 hc1 => ?_)
    obtain ⟨rfl, hF1, hC1⟩ := hc1
    refine q_imul (pc := 258) dX1_begin_258 ?_
    refine q_ri (pc := 259) dX1_begin_259 rfl ?_
    exact ⟨rfl, hF0.tt hF1, hC1⟩
  · exfalso; omega
theorem x_anew_s {i e : Int} (hC : CR σ A) (hV : AV A) (hi : 0 ≤ i ∧ i < A.1 5) (hk : 4 ≤ A.1 (13 + 3 * i)) (he : 0 ≤ e ∧ e ≤ 6) : qE G mX1_anew (d + 3) 0 [(0, vr 80), (1, vr 15), (2, vi i), (3, vi 0), (4, vi e)] [] σ (bP σ A (mWd A.1 i) (lW (A.1 (13 + 3 * i)))) := by
  have h5 := hV.1.de
  have hd := (hV.1.d hi.1 hi.2).1
  have ek : σ 16 i = A.1 (13 + 3 * i) := (hC.1.2.2.2 i hi.1 hi.2).1
  rcases (show A.1 (13 + 3 * i) = 4 ∨ A.1 (13 + 3 * i) = 5 by omega) with c | c
  · rw [show lW (A.1 (13 + 3 * i)) = lW 4 by rw [c]]
    rw [show mWd A.1 i = if (5 : Int) = 4 then 2 * (A.1 (15 + 3 * i) - 100) else A.1 (15 + 3 * i) - 100 by unfold mWd; rw [c] <;> rfl]
    refine q_aload_n (pc := 0) dX1_anew_0 rfl ?_
    refine q_aload_n (pc := 1) dX1_anew_1 rfl ?_
    refine q_iload_n (pc := 2) dX1_anew_2 rfl ?_
    refine q_aload_n (pc := 3) dX1_anew_3 rfl ?_
    refine q_getR (pc := 4) dX1_anew_4 fX1_20 rfl rfl ?_
    refine q_iload_n (pc := 7) dX1_anew_7 rfl ?_
    refine q_iald (pc := 8) dX1_anew_8 rfl (by omega) ?_
    refine q_iload_n (pc := 9) dX1_anew_9 rfl ?_
    refine q_S2i (pc := 10) dX1_anew_10 vX1_25 (Nat.le_of_ble_eq_true rfl) (Nat.le_of_ble_eq_true rfl) (t_X1_bodyFor (r := 13) (by omega) (by omega) (by rw [ek, c]; rfl)) (fun r1 σ1 hc1 => ?_)
    obtain ⟨rfl, rfl⟩ := hc1
    refine q_iload (pc := 13) dX1_anew_13 rfl ?_
    refine q_V4i (pc := 15) dX1_anew_15 vX1_29 rfl rfl (Nat.le_of_ble_eq_true rfl) (Nat.le_of_ble_eq_true rfl) (x_b13 hC hV hi (by omega)) (fun r2 σ2 hc2 => ?_)
    obtain ⟨rfl, hF2, hC2⟩ := hc2
    refine q_ri (pc := 18) dX1_anew_18 rfl ?_
    exact ⟨rfl, hF2, hC2⟩
  · rw [show lW (A.1 (13 + 3 * i)) = lW 5 by rw [c]]
    rw [show mWd A.1 i = if (5 : Int) = 5 then 2 * (A.1 (15 + 3 * i) - 100) else A.1 (15 + 3 * i) - 100 by unfold mWd; rw [c] <;> rfl]
    refine q_aload_n (pc := 0) dX1_anew_0 rfl ?_
    refine q_aload_n (pc := 1) dX1_anew_1 rfl ?_
    refine q_iload_n (pc := 2) dX1_anew_2 rfl ?_
    refine q_aload_n (pc := 3) dX1_anew_3 rfl ?_
    refine q_getR (pc := 4) dX1_anew_4 fX1_20 rfl rfl ?_
    refine q_iload_n (pc := 7) dX1_anew_7 rfl ?_
    refine q_iald (pc := 8) dX1_anew_8 rfl (by omega) ?_
    refine q_iload_n (pc := 9) dX1_anew_9 rfl ?_
    refine q_S2i (pc := 10) dX1_anew_10 vX1_25 (Nat.le_of_ble_eq_true rfl) (Nat.le_of_ble_eq_true rfl) (t_X1_bodyFor (r := 14) (by omega) (by omega) (by rw [ek, c]; rfl)) (fun r1 σ1 hc1 => ?_)
    obtain ⟨rfl, rfl⟩ := hc1
    refine q_iload (pc := 13) dX1_anew_13 rfl ?_
    refine q_V4i (pc := 15) dX1_anew_15 vX1_29 rfl rfl (Nat.le_of_ble_eq_true rfl) (Nat.le_of_ble_eq_true rfl) (x_b14 hC hV hi (by omega)) (fun r2 σ2 hc2 => ?_)
    obtain ⟨rfl, hF2, hC2⟩ := hc2
    refine q_ri (pc := 18) dX1_anew_18 rfl ?_
    exact ⟨rfl, hF2, hC2⟩
theorem x_b23 {i e : Int} (hC : CR σ A) (hV : AV A) (hi : 0 ≤ i ∧ i < A.1 5) (hk : 4 ≤ A.1 (13 + 3 * i)) (he : 0 ≤ e ∧ e ≤ 5) : qE G mX1_begin (d + 4) 0 [(0, vr 80), (1, vr 15), (2, vi i), (3, vi 23), (4, vi e)] [] σ (bP σ A (i - mWd A.1 i) (23 :: 20 :: lW (A.1 (13 + 3 * i)))) := by
  refine x_begin_pre hC hV (by omega) (fun σ0 hF0 hC0 => ?_)
  have hV0 := hV.tp (b := 23) (by omega)
  have hV1 := hV0.tp (b := 20) (by omega)
  have h5 := hV.1.de
  refine q_iload (pc := 35) dX1_begin_35 rfl ?_
  refine q_iconst (pc := 37) dX1_begin_37 ?_
  refine q_iadd (pc := 38) dX1_begin_38 ?_
  refine q_istore (pc := 39) dX1_begin_39 (Nat.le_of_ble_eq_true rfl) ?_
  refine q_iload_n (pc := 41) dX1_begin_41 rfl ?_
  rcases (show (23:Int) = 10 ∨ (23:Int) = 11 ∨ (23:Int) = 12 ∨ (23:Int) = 13 ∨ (23:Int) = 14 ∨ (23:Int) = 15 ∨ (23:Int) = 16 ∨ (23:Int) = 17 ∨ (23:Int) = 18 ∨ (23:Int) = 19 ∨ (23:Int) = 20 ∨ (23:Int) = 21 ∨ (23:Int) = 22 ∨ (23:Int) = 23 ∨ (23:Int) = 24 ∨ ((23:Int) < 10 ∨ 24 < (23:Int)) by omega) with hs42 | hs42 | hs42 | hs42 | hs42 | hs42 | hs42 | hs42 | hs42 | hs42 | hs42 | hs42 | hs42 | hs42 | hs42 | hs42
  · exfalso; omega
  · exfalso; omega
  · exfalso; omega
  · exfalso; omega
  · exfalso; omega
  · exfalso; omega
  · exfalso; omega
  · exfalso; omega
  · exfalso; omega
  · exfalso; omega
  · exfalso; omega
  · exfalso; omega
  · exfalso; omega
  · refine q_tsIn (pc := 42) (off := 184) (tgt := 226) dX1_begin_42 (by omega) (by omega) (by omega) (by rw [hs42]; rfl) (by decide) ?_
    refine q_aload_n (pc := 226) dX1_begin_226 rfl ?_
    refine q_aload_n (pc := 227) dX1_begin_227 rfl ?_
    refine q_iload_n (pc := 228) dX1_begin_228 rfl ?_
    refine q_bipush (pc := 229) dX1_begin_229 (by decide +kernel) ?_
    refine q_iload (pc := 231) dX1_begin_231 rfl ?_
    refine q_V4i (pc := 233) dX1_begin_233 vX1_29 rfl rfl (Nat.le_of_ble_eq_true rfl) (Nat.le_of_ble_eq_true rfl) (x_b20 hC0 hV0 hi (by omega)) (fun r1 σ1 hc1 => ?_)
    obtain ⟨rfl, hF1, hC1⟩ := hc1
    refine q_aload_n (pc := 236) dX1_begin_236 rfl ?_
    refine q_aload_n (pc := 237) dX1_begin_237 rfl ?_
    refine q_iload_n (pc := 238) dX1_begin_238 rfl ?_
    refine q_iconst (pc := 239) dX1_begin_239 ?_
    refine q_iload (pc := 240) dX1_begin_240 rfl ?_
    refine q_V4i (pc := 242) dX1_begin_242 vX1_42 rfl rfl (Nat.le_of_ble_eq_true rfl) (Nat.le_of_ble_eq_true rfl) (x_anew_s hC1 hV1 hi hk (by omega)) (fun r2 σ2 hc2 => ?_)
    obtain ⟨rfl, hF2, hC2⟩ := hc2
    refine q_isub (pc := 245) dX1_begin_245 ?_
    refine q_ri (pc := 246) dX1_begin_246 rfl ?_
    exact ⟨rfl, (hF0.tt hF1).tt hF2, hC2⟩
  · exfalso; omega
  · exfalso; omega
theorem x_anew_m {i e : Int} (hC : CR σ A) (hV : AV A) (hi : 0 ≤ i ∧ i < A.1 5) (hk : A.1 (13 + 3 * i) ≤ 3) (he : 0 ≤ e ∧ e ≤ 6) : qE G mX1_anew (d + 3) 0 [(0, vr 80), (1, vr 15), (2, vi i), (3, vi 1), (4, vi e)] [] σ (bP σ A (mMk A.1 i) (lM (A.1 (13 + 3 * i)))) := by
  have h5 := hV.1.de
  have hd := (hV.1.d hi.1 hi.2).1
  have ek : σ 16 i = A.1 (13 + 3 * i) := (hC.1.2.2.2 i hi.1 hi.2).1
  rcases (show A.1 (13 + 3 * i) = 1 ∨ A.1 (13 + 3 * i) = 2 ∨ A.1 (13 + 3 * i) = 3 by omega) with c | c | c
  · rw [show lM (A.1 (13 + 3 * i)) = lM 1 by rw [c]]
    rw [show mMk A.1 i = mM3 A.1 i by unfold mMk; rw [c] <;> rfl]
    refine q_aload_n (pc := 0) dX1_anew_0 rfl ?_
    refine q_aload_n (pc := 1) dX1_anew_1 rfl ?_
    refine q_iload_n (pc := 2) dX1_anew_2 rfl ?_
    refine q_aload_n (pc := 3) dX1_anew_3 rfl ?_
    refine q_getR (pc := 4) dX1_anew_4 fX1_20 rfl rfl ?_
    refine q_iload_n (pc := 7) dX1_anew_7 rfl ?_
    refine q_iald (pc := 8) dX1_anew_8 rfl (by omega) ?_
    refine q_iload_n (pc := 9) dX1_anew_9 rfl ?_
    refine q_S2i (pc := 10) dX1_anew_10 vX1_25 (Nat.le_of_ble_eq_true rfl) (Nat.le_of_ble_eq_true rfl) (t_X1_bodyFor (r := 21) (by omega) (by omega) (by rw [ek, c]; rfl)) (fun r1 σ1 hc1 => ?_)
    obtain ⟨rfl, rfl⟩ := hc1
    refine q_iload (pc := 13) dX1_anew_13 rfl ?_
    refine q_V4i (pc := 15) dX1_anew_15 vX1_29 rfl rfl (Nat.le_of_ble_eq_true rfl) (Nat.le_of_ble_eq_true rfl) (x_b21 hC hV hi (by omega)) (fun r2 σ2 hc2 => ?_)
    obtain ⟨rfl, hF2, hC2⟩ := hc2
    refine q_ri (pc := 18) dX1_anew_18 rfl ?_
    exact ⟨rfl, hF2, hC2⟩
  · rw [show lM (A.1 (13 + 3 * i)) = lM 2 by rw [c]]
    rw [show mMk A.1 i = 2*mM3 A.1 i by unfold mMk; rw [c] <;> rfl]
    refine q_aload_n (pc := 0) dX1_anew_0 rfl ?_
    refine q_aload_n (pc := 1) dX1_anew_1 rfl ?_
    refine q_iload_n (pc := 2) dX1_anew_2 rfl ?_
    refine q_aload_n (pc := 3) dX1_anew_3 rfl ?_
    refine q_getR (pc := 4) dX1_anew_4 fX1_20 rfl rfl ?_
    refine q_iload_n (pc := 7) dX1_anew_7 rfl ?_
    refine q_iald (pc := 8) dX1_anew_8 rfl (by omega) ?_
    refine q_iload_n (pc := 9) dX1_anew_9 rfl ?_
    refine q_S2i (pc := 10) dX1_anew_10 vX1_25 (Nat.le_of_ble_eq_true rfl) (Nat.le_of_ble_eq_true rfl) (t_X1_bodyFor (r := 24) (by omega) (by omega) (by rw [ek, c]; rfl)) (fun r1 σ1 hc1 => ?_)
    obtain ⟨rfl, rfl⟩ := hc1
    refine q_iload (pc := 13) dX1_anew_13 rfl ?_
    refine q_V4i (pc := 15) dX1_anew_15 vX1_29 rfl rfl (Nat.le_of_ble_eq_true rfl) (Nat.le_of_ble_eq_true rfl) (x_b24 hC hV hi (by omega)) (fun r2 σ2 hc2 => ?_)
    obtain ⟨rfl, hF2, hC2⟩ := hc2
    refine q_ri (pc := 18) dX1_anew_18 rfl ?_
    exact ⟨rfl, hF2, hC2⟩
  · rw [show lM (A.1 (13 + 3 * i)) = lM 3 by rw [c]]
    rw [show mMk A.1 i = mM3 A.1 i - 1000 by unfold mMk; rw [c] <;> rfl]
    refine q_aload_n (pc := 0) dX1_anew_0 rfl ?_
    refine q_aload_n (pc := 1) dX1_anew_1 rfl ?_
    refine q_iload_n (pc := 2) dX1_anew_2 rfl ?_
    refine q_aload_n (pc := 3) dX1_anew_3 rfl ?_
    refine q_getR (pc := 4) dX1_anew_4 fX1_20 rfl rfl ?_
    refine q_iload_n (pc := 7) dX1_anew_7 rfl ?_
    refine q_iald (pc := 8) dX1_anew_8 rfl (by omega) ?_
    refine q_iload_n (pc := 9) dX1_anew_9 rfl ?_
    refine q_S2i (pc := 10) dX1_anew_10 vX1_25 (Nat.le_of_ble_eq_true rfl) (Nat.le_of_ble_eq_true rfl) (t_X1_bodyFor (r := 22) (by omega) (by omega) (by rw [ek, c]; rfl)) (fun r1 σ1 hc1 => ?_)
    obtain ⟨rfl, rfl⟩ := hc1
    refine q_iload (pc := 13) dX1_anew_13 rfl ?_
    refine q_V4i (pc := 15) dX1_anew_15 vX1_29 rfl rfl (Nat.le_of_ble_eq_true rfl) (Nat.le_of_ble_eq_true rfl) (x_b22 hC hV hi (by omega)) (fun r2 σ2 hc2 => ?_)
    obtain ⟨rfl, hF2, hC2⟩ := hc2
    refine q_ri (pc := 18) dX1_anew_18 rfl ?_
    exact ⟨rfl, hF2, hC2⟩
theorem x_b11 {i e : Int} (hC : CR σ A) (hV : AV A) (hi : 0 ≤ i ∧ i < A.1 5) (hk : A.1 (13 + 3 * i) ≤ 3) (he : 0 ≤ e ∧ e ≤ 5) : qE G mX1_begin (d + 4) 0 [(0, vr 80), (1, vr 15), (2, vi i), (3, vi 11), (4, vi e)] [] σ (bP σ A (A.1 (15 + 3 * i) + mMk A.1 i) (11 :: 10 :: lM (A.1 (13 + 3 * i)))) := by
  refine x_begin_pre hC hV (by omega) (fun σ0 hF0 hC0 => ?_)
  have hV0 := hV.tp (b := 11) (by omega)
  have hV1 := hV0.tp (b := 10) (by omega)
  have h5 := hV.1.de
  refine q_iload (pc := 35) dX1_begin_35 rfl ?_
  refine q_iconst (pc := 37) dX1_begin_37 ?_
  refine q_iadd (pc := 38) dX1_begin_38 ?_
  refine q_istore (pc := 39) dX1_begin_39 (Nat.le_of_ble_eq_true rfl) ?_
  refine q_iload_n (pc := 41) dX1_begin_41 rfl ?_
  rcases (show (11:Int) = 10 ∨ (11:Int) = 11 ∨ (11:Int) = 12 ∨ (11:Int) = 13 ∨ (11:Int) = 14 ∨ (11:Int) = 15 ∨ (11:Int) = 16 ∨ (11:Int) = 17 ∨ (11:Int) = 18 ∨ (11:Int) = 19 ∨ (11:Int) = 20 ∨ (11:Int) = 21 ∨ (11:Int) = 22 ∨ (11:Int) = 23 ∨ (11:Int) = 24 ∨ ((11:Int) < 10 ∨ 24 < (11:Int)) by omega) with hs42 | hs42 | hs42 | hs42 | hs42 | hs42 | hs42 | hs42 | hs42 | hs42 | hs42 | hs42 | hs42 | hs42 | hs42 | hs42
  · exfalso; omega
  · refine q_tsIn (pc := 42) (off := 81) (tgt := 123) dX1_begin_42 (by omega) (by omega) (by omega) (by rw [hs42]; rfl) (by decide) ?_
    refine q_aload_n (pc := 123) dX1_begin_123 rfl ?_
    refine q_aload_n (pc := 124) dX1_begin_124 rfl ?_
    refine q_iload_n (pc := 125) dX1_begin_125 rfl ?_
    refine q_bipush (pc := 126) dX1_begin_126 (by decide +kernel) ?_
    refine q_iload (pc := 128) dX1_begin_128 rfl ?_
    refine q_V4i (pc := 130) dX1_begin_130 vX1_29 rfl rfl (Nat.le_of_ble_eq_true rfl) (Nat.le_of_ble_eq_true rfl) (x_b10 hC0 hV0 hi (by omega)) (fun r1 σ1 hc1 => ?_)
    obtain ⟨rfl, hF1, hC1⟩ := hc1
    refine q_aload_n (pc := 133) dX1_begin_133 rfl ?_
    refine q_aload_n (pc := 134) dX1_begin_134 rfl ?_
    refine q_iload_n (pc := 135) dX1_begin_135 rfl ?_
    refine q_iconst (pc := 136) dX1_begin_136 ?_
    refine q_iload (pc := 137) dX1_begin_137 rfl ?_
    refine q_V4i (pc := 139) dX1_begin_139 vX1_42 rfl rfl (Nat.le_of_ble_eq_true rfl) (Nat.le_of_ble_eq_true rfl) (x_anew_m hC1 hV1 hi hk (by omega)) (fun r2 σ2 hc2 => ?_)
    obtain ⟨rfl, hF2, hC2⟩ := hc2
    refine q_iadd (pc := 142) dX1_begin_142 ?_
    refine q_ri (pc := 143) dX1_begin_143 rfl ?_
    exact ⟨rfl, (hF0.tt hF1).tt hF2, hC2⟩
  · exfalso; omega
  · exfalso; omega
  · exfalso; omega
  · exfalso; omega
  · exfalso; omega
  · exfalso; omega
  · exfalso; omega
  · exfalso; omega
  · exfalso; omega
  · exfalso; omega
  · exfalso; omega
  · exfalso; omega
  · exfalso; omega
  · exfalso; omega
theorem x_b12 {i e : Int} (hC : CR σ A) (hV : AV A) (hi : 0 ≤ i ∧ i < A.1 5) (hk : A.1 (13 + 3 * i) ≤ 3) (he : 0 ≤ e ∧ e ≤ 4) : qE G mX1_begin (d + 5) 0 [(0, vr 80), (1, vr 15), (2, vi i), (3, vi 12), (4, vi e)] [] σ (bP σ A (-(A.1 (15 + 3 * i) + mMk A.1 i)) (12 :: 11 :: 10 :: lM (A.1 (13 + 3 * i)))) := by
  refine x_begin_pre hC hV (by omega) (fun σ0 hF0 hC0 => ?_)
  have hV0 := hV.tp (b := 12) (by omega)
  have h5 := hV.1.de
  refine q_iload (pc := 35) dX1_begin_35 rfl ?_
  refine q_iconst (pc := 37) dX1_begin_37 ?_
  refine q_iadd (pc := 38) dX1_begin_38 ?_
  refine q_istore (pc := 39) dX1_begin_39 (Nat.le_of_ble_eq_true rfl) ?_
  refine q_iload_n (pc := 41) dX1_begin_41 rfl ?_
  rcases (show (12:Int) = 10 ∨ (12:Int) = 11 ∨ (12:Int) = 12 ∨ (12:Int) = 13 ∨ (12:Int) = 14 ∨ (12:Int) = 15 ∨ (12:Int) = 16 ∨ (12:Int) = 17 ∨ (12:Int) = 18 ∨ (12:Int) = 19 ∨ (12:Int) = 20 ∨ (12:Int) = 21 ∨ (12:Int) = 22 ∨ (12:Int) = 23 ∨ (12:Int) = 24 ∨ ((12:Int) < 10 ∨ 24 < (12:Int)) by omega) with hs42 | hs42 | hs42 | hs42 | hs42 | hs42 | hs42 | hs42 | hs42 | hs42 | hs42 | hs42 | hs42 | hs42 | hs42 | hs42
  · exfalso; omega
  · exfalso; omega
  · refine q_tsIn (pc := 42) (off := 102) (tgt := 144) dX1_begin_42 (by omega) (by omega) (by omega) (by rw [hs42]; rfl) (by decide) ?_
    refine q_aload_n (pc := 144) dX1_begin_144 rfl ?_
    refine q_aload_n (pc := 145) dX1_begin_145 rfl ?_
    refine q_iload_n (pc := 146) dX1_begin_146 rfl ?_
    refine q_bipush (pc := 147) dX1_begin_147 (by decide +kernel) ?_
    refine q_iload (pc := 149) dX1_begin_149 rfl ?_
    refine q_V4i (pc := 151) dX1_begin_151 vX1_29 rfl rfl (Nat.le_of_ble_eq_true rfl) (Nat.le_of_ble_eq_true rfl) (x_b11 hC0 hV0 hi hk (by omega)) (fun r1 σ1 hc1 => ?_)
    obtain ⟨rfl, hF1, hC1⟩ := hc1
    refine q_ineg (pc := 154) dX1_begin_154 ?_
    refine q_ri (pc := 155) dX1_begin_155 rfl ?_
    exact ⟨rfl, hF0.tt hF1, hC1⟩
  · exfalso; omega
  · exfalso; omega
  · exfalso; omega
  · exfalso; omega
  · exfalso; omega
  · exfalso; omega
  · exfalso; omega
  · exfalso; omega
  · exfalso; omega
  · exfalso; omega
  · exfalso; omega
  · exfalso; omega
  · exfalso; omega
theorem x_answer {i w : Int} (hC : CR σ A) (hV : AV A) (hi : 0 ≤ i ∧ i < A.1 5) (hw : 0 ≤ w ∧ w ≤ 1) : qE G mX1_answer (d + 6) 0 [(0, vr 80), (1, vr 15), (2, vi i), (3, vi w)] [] σ (ri fun r σ1 => (if w = 0 then mSz A.1 i else mMk A.1 i) = r ∧ Fr σ σ1 [80, 81] ∧ CR σ1 (aTr A (tL (A.2.2.2.2.2.2.2.1, 0) (if w = 0 then lS (A.1 (13 + 3 * i)) else lM (A.1 (13 + 3 * i)))))) := by
  have h5 := hV.1.de
  have hd := (hV.1.d hi.1 hi.2).1
  have hF0 : Fr σ (up σ 80 1 0) [80, 81] := Fr.up (by simp)
  have hC0 : CR (up σ 80 1 0) (aTr A (A.2.2.2.2.2.2.2.1, 0)) := hC.tr hF0 (by rw [up_same, if_pos rfl]) (fun j h0 h1 => by have h1 : j < 0 := h1; omega)
  have hV0 : AV (aTr A (A.2.2.2.2.2.2.2.1, 0)) := hV.tr ⟨by show (0 : Int) ≤ 0 ∧ (0 : Int) ≤ 16; omega, fun j h0 h1 => by have h1 : j < 0 := h1; omega⟩
  have ek : up σ 80 1 0 16 i = A.1 (13 + 3 * i) := (hC0.1.2.2.2 i hi.1 hi.2).1
  rcases (show w = 0 ∨ w = 1 by omega) with rfl | rfl
  · rw [if_pos rfl, if_pos rfl]
    rcases (show A.1 (13 + 3 * i) = 1 ∨ A.1 (13 + 3 * i) = 2 ∨ A.1 (13 + 3 * i) = 3 ∨ A.1 (13 + 3 * i) = 4 ∨ A.1 (13 + 3 * i) = 5 by omega) with c | c | c | c | c
    · rw [show mSz A.1 i = A.1 (15+3*i) + mMk A.1 i by unfold mSz; (try unfold mWd); rw [c] <;> rfl]
      rw [show lS (A.1 (13 + 3 * i)) = 11 :: 10 :: lM (A.1 (13+3*i)) by rw [c] <;> rfl]
      refine q_aload_n (pc := 0) dX1_answer_0 rfl ?_
      refine q_iconst (pc := 1) dX1_answer_1 ?_
      refine q_pI (pc := 2) 1 dX1_answer_2 wX1_16 rfl rfl rfl ?_
      refine q_aload_n (pc := 5) dX1_answer_5 rfl ?_
      refine q_aload_n (pc := 6) dX1_answer_6 rfl ?_
      refine q_iload_n (pc := 7) dX1_answer_7 rfl ?_
      refine q_aload_n (pc := 8) dX1_answer_8 rfl ?_
      refine q_getR (pc := 9) dX1_answer_9 fX1_20 rfl rfl ?_
      refine q_iload_n (pc := 12) dX1_answer_12 rfl ?_
      refine q_iald (pc := 13) dX1_answer_13 rfl (by omega) ?_
      refine q_iload_n (pc := 14) dX1_answer_14 rfl ?_
      refine q_S2i (pc := 15) dX1_answer_15 vX1_25 (Nat.le_of_ble_eq_true rfl) (Nat.le_of_ble_eq_true rfl) (t_X1_bodyFor (r := 11) (by omega) (by omega) (by rw [ek, c]; rfl)) (fun r1 σ1 hc1 => ?_)
      obtain ⟨rfl, rfl⟩ := hc1
      refine q_iconst (pc := 18) dX1_answer_18 ?_
      refine q_V4i (pc := 19) dX1_answer_19 vX1_29 rfl rfl (Nat.le_of_ble_eq_true rfl) (Nat.le_of_ble_eq_true rfl) (x_b11 hC0 hV0 hi (show A.1 (13+3*i) ≤ 3 by omega) (by omega)) (fun r2 σ2 hc2 => ?_)
      obtain ⟨rfl, hF2, hC2⟩ := hc2
      refine q_ri (pc := 22) dX1_answer_22 rfl ?_
      exact ⟨rfl, hF0.tt hF2, hC2⟩
    · rw [show mSz A.1 i = -(A.1 (15+3*i) + mMk A.1 i) by unfold mSz; (try unfold mWd); rw [c] <;> rfl]
      rw [show lS (A.1 (13 + 3 * i)) = 12 :: 11 :: 10 :: lM (A.1 (13+3*i)) by rw [c] <;> rfl]
      refine q_aload_n (pc := 0) dX1_answer_0 rfl ?_
      refine q_iconst (pc := 1) dX1_answer_1 ?_
      refine q_pI (pc := 2) 1 dX1_answer_2 wX1_16 rfl rfl rfl ?_
      refine q_aload_n (pc := 5) dX1_answer_5 rfl ?_
      refine q_aload_n (pc := 6) dX1_answer_6 rfl ?_
      refine q_iload_n (pc := 7) dX1_answer_7 rfl ?_
      refine q_aload_n (pc := 8) dX1_answer_8 rfl ?_
      refine q_getR (pc := 9) dX1_answer_9 fX1_20 rfl rfl ?_
      refine q_iload_n (pc := 12) dX1_answer_12 rfl ?_
      refine q_iald (pc := 13) dX1_answer_13 rfl (by omega) ?_
      refine q_iload_n (pc := 14) dX1_answer_14 rfl ?_
      refine q_S2i (pc := 15) dX1_answer_15 vX1_25 (Nat.le_of_ble_eq_true rfl) (Nat.le_of_ble_eq_true rfl) (t_X1_bodyFor (r := 12) (by omega) (by omega) (by rw [ek, c]; rfl)) (fun r1 σ1 hc1 => ?_)
      obtain ⟨rfl, rfl⟩ := hc1
      refine q_iconst (pc := 18) dX1_answer_18 ?_
      refine q_V4i (pc := 19) dX1_answer_19 vX1_29 rfl rfl (Nat.le_of_ble_eq_true rfl) (Nat.le_of_ble_eq_true rfl) (x_b12 hC0 hV0 hi (show A.1 (13+3*i) ≤ 3 by omega) (by omega)) (fun r2 σ2 hc2 => ?_)
      obtain ⟨rfl, hF2, hC2⟩ := hc2
      refine q_ri (pc := 22) dX1_answer_22 rfl ?_
      exact ⟨rfl, hF0.tt hF2, hC2⟩
    · rw [show mSz A.1 i = A.1 (15+3*i) + mMk A.1 i by unfold mSz; (try unfold mWd); rw [c] <;> rfl]
      rw [show lS (A.1 (13 + 3 * i)) = 11 :: 10 :: lM (A.1 (13+3*i)) by rw [c] <;> rfl]
      refine q_aload_n (pc := 0) dX1_answer_0 rfl ?_
      refine q_iconst (pc := 1) dX1_answer_1 ?_
      refine q_pI (pc := 2) 1 dX1_answer_2 wX1_16 rfl rfl rfl ?_
      refine q_aload_n (pc := 5) dX1_answer_5 rfl ?_
      refine q_aload_n (pc := 6) dX1_answer_6 rfl ?_
      refine q_iload_n (pc := 7) dX1_answer_7 rfl ?_
      refine q_aload_n (pc := 8) dX1_answer_8 rfl ?_
      refine q_getR (pc := 9) dX1_answer_9 fX1_20 rfl rfl ?_
      refine q_iload_n (pc := 12) dX1_answer_12 rfl ?_
      refine q_iald (pc := 13) dX1_answer_13 rfl (by omega) ?_
      refine q_iload_n (pc := 14) dX1_answer_14 rfl ?_
      refine q_S2i (pc := 15) dX1_answer_15 vX1_25 (Nat.le_of_ble_eq_true rfl) (Nat.le_of_ble_eq_true rfl) (t_X1_bodyFor (r := 11) (by omega) (by omega) (by rw [ek, c]; rfl)) (fun r1 σ1 hc1 => ?_)
      obtain ⟨rfl, rfl⟩ := hc1
      refine q_iconst (pc := 18) dX1_answer_18 ?_
      refine q_V4i (pc := 19) dX1_answer_19 vX1_29 rfl rfl (Nat.le_of_ble_eq_true rfl) (Nat.le_of_ble_eq_true rfl) (x_b11 hC0 hV0 hi (show A.1 (13+3*i) ≤ 3 by omega) (by omega)) (fun r2 σ2 hc2 => ?_)
      obtain ⟨rfl, hF2, hC2⟩ := hc2
      refine q_ri (pc := 22) dX1_answer_22 rfl ?_
      exact ⟨rfl, hF0.tt hF2, hC2⟩
    · rw [show mSz A.1 i = A.1 (15+3*i) - 100 by unfold mSz; (try unfold mWd); rw [c] <;> rfl]
      rw [show lS (A.1 (13 + 3 * i)) = [13,10] by rw [c] <;> rfl]
      refine q_aload_n (pc := 0) dX1_answer_0 rfl ?_
      refine q_iconst (pc := 1) dX1_answer_1 ?_
      refine q_pI (pc := 2) 1 dX1_answer_2 wX1_16 rfl rfl rfl ?_
      refine q_aload_n (pc := 5) dX1_answer_5 rfl ?_
      refine q_aload_n (pc := 6) dX1_answer_6 rfl ?_
      refine q_iload_n (pc := 7) dX1_answer_7 rfl ?_
      refine q_aload_n (pc := 8) dX1_answer_8 rfl ?_
      refine q_getR (pc := 9) dX1_answer_9 fX1_20 rfl rfl ?_
      refine q_iload_n (pc := 12) dX1_answer_12 rfl ?_
      refine q_iald (pc := 13) dX1_answer_13 rfl (by omega) ?_
      refine q_iload_n (pc := 14) dX1_answer_14 rfl ?_
      refine q_S2i (pc := 15) dX1_answer_15 vX1_25 (Nat.le_of_ble_eq_true rfl) (Nat.le_of_ble_eq_true rfl) (t_X1_bodyFor (r := 13) (by omega) (by omega) (by rw [ek, c]; rfl)) (fun r1 σ1 hc1 => ?_)
      obtain ⟨rfl, rfl⟩ := hc1
      refine q_iconst (pc := 18) dX1_answer_18 ?_
      refine q_V4i (pc := 19) dX1_answer_19 vX1_29 rfl rfl (Nat.le_of_ble_eq_true rfl) (Nat.le_of_ble_eq_true rfl) (x_b13 hC0 hV0 hi (by omega)) (fun r2 σ2 hc2 => ?_)
      obtain ⟨rfl, hF2, hC2⟩ := hc2
      refine q_ri (pc := 22) dX1_answer_22 rfl ?_
      exact ⟨rfl, hF0.tt hF2, hC2⟩
    · rw [show mSz A.1 i = 2*(A.1 (15+3*i) - 100) by unfold mSz; (try unfold mWd); rw [c] <;> rfl]
      rw [show lS (A.1 (13 + 3 * i)) = [14,13,10] by rw [c] <;> rfl]
      refine q_aload_n (pc := 0) dX1_answer_0 rfl ?_
      refine q_iconst (pc := 1) dX1_answer_1 ?_
      refine q_pI (pc := 2) 1 dX1_answer_2 wX1_16 rfl rfl rfl ?_
      refine q_aload_n (pc := 5) dX1_answer_5 rfl ?_
      refine q_aload_n (pc := 6) dX1_answer_6 rfl ?_
      refine q_iload_n (pc := 7) dX1_answer_7 rfl ?_
      refine q_aload_n (pc := 8) dX1_answer_8 rfl ?_
      refine q_getR (pc := 9) dX1_answer_9 fX1_20 rfl rfl ?_
      refine q_iload_n (pc := 12) dX1_answer_12 rfl ?_
      refine q_iald (pc := 13) dX1_answer_13 rfl (by omega) ?_
      refine q_iload_n (pc := 14) dX1_answer_14 rfl ?_
      refine q_S2i (pc := 15) dX1_answer_15 vX1_25 (Nat.le_of_ble_eq_true rfl) (Nat.le_of_ble_eq_true rfl) (t_X1_bodyFor (r := 14) (by omega) (by omega) (by rw [ek, c]; rfl)) (fun r1 σ1 hc1 => ?_)
      obtain ⟨rfl, rfl⟩ := hc1
      refine q_iconst (pc := 18) dX1_answer_18 ?_
      refine q_V4i (pc := 19) dX1_answer_19 vX1_29 rfl rfl (Nat.le_of_ble_eq_true rfl) (Nat.le_of_ble_eq_true rfl) (x_b14 hC0 hV0 hi (by omega)) (fun r2 σ2 hc2 => ?_)
      obtain ⟨rfl, hF2, hC2⟩ := hc2
      refine q_ri (pc := 22) dX1_answer_22 rfl ?_
      exact ⟨rfl, hF0.tt hF2, hC2⟩
  · rw [if_neg (by omega), if_neg (by omega)]
    rcases (show A.1 (13 + 3 * i) = 1 ∨ A.1 (13 + 3 * i) = 2 ∨ A.1 (13 + 3 * i) = 3 ∨ A.1 (13 + 3 * i) = 4 ∨ A.1 (13 + 3 * i) = 5 by omega) with c | c | c | c | c
    · rw [show mMk A.1 i = mM3 A.1 i by unfold mMk; rw [c] <;> rfl]
      rw [show lM (A.1 (13 + 3 * i)) = [21,20] by rw [c] <;> rfl]
      refine q_aload_n (pc := 0) dX1_answer_0 rfl ?_
      refine q_iconst (pc := 1) dX1_answer_1 ?_
      refine q_pI (pc := 2) 1 dX1_answer_2 wX1_16 rfl rfl rfl ?_
      refine q_aload_n (pc := 5) dX1_answer_5 rfl ?_
      refine q_aload_n (pc := 6) dX1_answer_6 rfl ?_
      refine q_iload_n (pc := 7) dX1_answer_7 rfl ?_
      refine q_aload_n (pc := 8) dX1_answer_8 rfl ?_
      refine q_getR (pc := 9) dX1_answer_9 fX1_20 rfl rfl ?_
      refine q_iload_n (pc := 12) dX1_answer_12 rfl ?_
      refine q_iald (pc := 13) dX1_answer_13 rfl (by omega) ?_
      refine q_iload_n (pc := 14) dX1_answer_14 rfl ?_
      refine q_S2i (pc := 15) dX1_answer_15 vX1_25 (Nat.le_of_ble_eq_true rfl) (Nat.le_of_ble_eq_true rfl) (t_X1_bodyFor (r := 21) (by omega) (by omega) (by rw [ek, c]; rfl)) (fun r1 σ1 hc1 => ?_)
      obtain ⟨rfl, rfl⟩ := hc1
      refine q_iconst (pc := 18) dX1_answer_18 ?_
      refine q_V4i (pc := 19) dX1_answer_19 vX1_29 rfl rfl (Nat.le_of_ble_eq_true rfl) (Nat.le_of_ble_eq_true rfl) (x_b21 hC0 hV0 hi (by omega)) (fun r2 σ2 hc2 => ?_)
      obtain ⟨rfl, hF2, hC2⟩ := hc2
      refine q_ri (pc := 22) dX1_answer_22 rfl ?_
      exact ⟨rfl, hF0.tt hF2, hC2⟩
    · rw [show mMk A.1 i = 2*mM3 A.1 i by unfold mMk; rw [c] <;> rfl]
      rw [show lM (A.1 (13 + 3 * i)) = [24,21,20] by rw [c] <;> rfl]
      refine q_aload_n (pc := 0) dX1_answer_0 rfl ?_
      refine q_iconst (pc := 1) dX1_answer_1 ?_
      refine q_pI (pc := 2) 1 dX1_answer_2 wX1_16 rfl rfl rfl ?_
      refine q_aload_n (pc := 5) dX1_answer_5 rfl ?_
      refine q_aload_n (pc := 6) dX1_answer_6 rfl ?_
      refine q_iload_n (pc := 7) dX1_answer_7 rfl ?_
      refine q_aload_n (pc := 8) dX1_answer_8 rfl ?_
      refine q_getR (pc := 9) dX1_answer_9 fX1_20 rfl rfl ?_
      refine q_iload_n (pc := 12) dX1_answer_12 rfl ?_
      refine q_iald (pc := 13) dX1_answer_13 rfl (by omega) ?_
      refine q_iload_n (pc := 14) dX1_answer_14 rfl ?_
      refine q_S2i (pc := 15) dX1_answer_15 vX1_25 (Nat.le_of_ble_eq_true rfl) (Nat.le_of_ble_eq_true rfl) (t_X1_bodyFor (r := 24) (by omega) (by omega) (by rw [ek, c]; rfl)) (fun r1 σ1 hc1 => ?_)
      obtain ⟨rfl, rfl⟩ := hc1
      refine q_iconst (pc := 18) dX1_answer_18 ?_
      refine q_V4i (pc := 19) dX1_answer_19 vX1_29 rfl rfl (Nat.le_of_ble_eq_true rfl) (Nat.le_of_ble_eq_true rfl) (x_b24 hC0 hV0 hi (by omega)) (fun r2 σ2 hc2 => ?_)
      obtain ⟨rfl, hF2, hC2⟩ := hc2
      refine q_ri (pc := 22) dX1_answer_22 rfl ?_
      exact ⟨rfl, hF0.tt hF2, hC2⟩
    · rw [show mMk A.1 i = mM3 A.1 i - 1000 by unfold mMk; rw [c] <;> rfl]
      rw [show lM (A.1 (13 + 3 * i)) = [22,21,20] by rw [c] <;> rfl]
      refine q_aload_n (pc := 0) dX1_answer_0 rfl ?_
      refine q_iconst (pc := 1) dX1_answer_1 ?_
      refine q_pI (pc := 2) 1 dX1_answer_2 wX1_16 rfl rfl rfl ?_
      refine q_aload_n (pc := 5) dX1_answer_5 rfl ?_
      refine q_aload_n (pc := 6) dX1_answer_6 rfl ?_
      refine q_iload_n (pc := 7) dX1_answer_7 rfl ?_
      refine q_aload_n (pc := 8) dX1_answer_8 rfl ?_
      refine q_getR (pc := 9) dX1_answer_9 fX1_20 rfl rfl ?_
      refine q_iload_n (pc := 12) dX1_answer_12 rfl ?_
      refine q_iald (pc := 13) dX1_answer_13 rfl (by omega) ?_
      refine q_iload_n (pc := 14) dX1_answer_14 rfl ?_
      refine q_S2i (pc := 15) dX1_answer_15 vX1_25 (Nat.le_of_ble_eq_true rfl) (Nat.le_of_ble_eq_true rfl) (t_X1_bodyFor (r := 22) (by omega) (by omega) (by rw [ek, c]; rfl)) (fun r1 σ1 hc1 => ?_)
      obtain ⟨rfl, rfl⟩ := hc1
      refine q_iconst (pc := 18) dX1_answer_18 ?_
      refine q_V4i (pc := 19) dX1_answer_19 vX1_29 rfl rfl (Nat.le_of_ble_eq_true rfl) (Nat.le_of_ble_eq_true rfl) (x_b22 hC0 hV0 hi (by omega)) (fun r2 σ2 hc2 => ?_)
      obtain ⟨rfl, hF2, hC2⟩ := hc2
      refine q_ri (pc := 22) dX1_answer_22 rfl ?_
      exact ⟨rfl, hF0.tt hF2, hC2⟩
    · rw [show mMk A.1 i = i - mWd A.1 i by unfold mMk; rw [c] <;> rfl]
      rw [show lM (A.1 (13 + 3 * i)) = 23 :: 20 :: lW (A.1 (13+3*i)) by rw [c] <;> rfl]
      refine q_aload_n (pc := 0) dX1_answer_0 rfl ?_
      refine q_iconst (pc := 1) dX1_answer_1 ?_
      refine q_pI (pc := 2) 1 dX1_answer_2 wX1_16 rfl rfl rfl ?_
      refine q_aload_n (pc := 5) dX1_answer_5 rfl ?_
      refine q_aload_n (pc := 6) dX1_answer_6 rfl ?_
      refine q_iload_n (pc := 7) dX1_answer_7 rfl ?_
      refine q_aload_n (pc := 8) dX1_answer_8 rfl ?_
      refine q_getR (pc := 9) dX1_answer_9 fX1_20 rfl rfl ?_
      refine q_iload_n (pc := 12) dX1_answer_12 rfl ?_
      refine q_iald (pc := 13) dX1_answer_13 rfl (by omega) ?_
      refine q_iload_n (pc := 14) dX1_answer_14 rfl ?_
      refine q_S2i (pc := 15) dX1_answer_15 vX1_25 (Nat.le_of_ble_eq_true rfl) (Nat.le_of_ble_eq_true rfl) (t_X1_bodyFor (r := 23) (by omega) (by omega) (by rw [ek, c]; rfl)) (fun r1 σ1 hc1 => ?_)
      obtain ⟨rfl, rfl⟩ := hc1
      refine q_iconst (pc := 18) dX1_answer_18 ?_
      refine q_V4i (pc := 19) dX1_answer_19 vX1_29 rfl rfl (Nat.le_of_ble_eq_true rfl) (Nat.le_of_ble_eq_true rfl) (x_b23 hC0 hV0 hi (show 4≤A.1 (13+3*i) by omega) (by omega)) (fun r2 σ2 hc2 => ?_)
      obtain ⟨rfl, hF2, hC2⟩ := hc2
      refine q_ri (pc := 22) dX1_answer_22 rfl ?_
      exact ⟨rfl, hF0.tt hF2, hC2⟩
    · rw [show mMk A.1 i = i - mWd A.1 i by unfold mMk; rw [c] <;> rfl]
      rw [show lM (A.1 (13 + 3 * i)) = 23 :: 20 :: lW (A.1 (13+3*i)) by rw [c] <;> rfl]
      refine q_aload_n (pc := 0) dX1_answer_0 rfl ?_
      refine q_iconst (pc := 1) dX1_answer_1 ?_
      refine q_pI (pc := 2) 1 dX1_answer_2 wX1_16 rfl rfl rfl ?_
      refine q_aload_n (pc := 5) dX1_answer_5 rfl ?_
      refine q_aload_n (pc := 6) dX1_answer_6 rfl ?_
      refine q_iload_n (pc := 7) dX1_answer_7 rfl ?_
      refine q_aload_n (pc := 8) dX1_answer_8 rfl ?_
      refine q_getR (pc := 9) dX1_answer_9 fX1_20 rfl rfl ?_
      refine q_iload_n (pc := 12) dX1_answer_12 rfl ?_
      refine q_iald (pc := 13) dX1_answer_13 rfl (by omega) ?_
      refine q_iload_n (pc := 14) dX1_answer_14 rfl ?_
      refine q_S2i (pc := 15) dX1_answer_15 vX1_25 (Nat.le_of_ble_eq_true rfl) (Nat.le_of_ble_eq_true rfl) (t_X1_bodyFor (r := 23) (by omega) (by omega) (by rw [ek, c]; rfl)) (fun r1 σ1 hc1 => ?_)
      obtain ⟨rfl, rfl⟩ := hc1
      refine q_iconst (pc := 18) dX1_answer_18 ?_
      refine q_V4i (pc := 19) dX1_answer_19 vX1_29 rfl rfl (Nat.le_of_ble_eq_true rfl) (Nat.le_of_ble_eq_true rfl) (x_b23 hC0 hV0 hi (show 4≤A.1 (13+3*i) by omega) (by omega)) (fun r2 σ2 hc2 => ?_)
      obtain ⟨rfl, hF2, hC2⟩ := hc2
      refine q_ri (pc := 22) dX1_answer_22 rfl ?_
      exact ⟨rfl, hF0.tt hF2, hC2⟩
theorem x_ask {i w : Int} (hC : CR σ A) (hV : AV A) (hi : -2147483648 ≤ i ∧ i ≤ 2147483647) (hw : -2147483648 ≤ w ∧ w ≤ 2147483647) : qE G mX7_ask (d + 7) 0 [(0, vr 0), (1, vi i), (2, vi w)] [] σ (ri (pC σ (s_ask A i w))) := by
  have h5 := hV.1.de
  refine q_aload_n (pc := 0) dX7_ask_0 rfl ?_
  refine q_getR (pc := 1) dX7_ask_1 fX7_26 rfl rfl ?_
  refine q_iload_n (pc := 4) dX7_ask_4 rfl ?_
  refine q_V1i (pc := 5) dX7_ask_5 vX7_164 rfl rfl (Nat.le_of_ble_eq_true rfl) (Nat.le_of_ble_eq_true rfl) (t_X4_hasDeed si15 hC.1 hV.1 (by omega)) (fun r1 σ1 hc1 => ?_)
  obtain ⟨rfl, rfl⟩ := hc1
  refine q_ifeqb (pc := 8) (tgt := 20) dX7_ask_8 (by decide) (fun h8 => ?_) (fun h8 => ?_)
  · refine q_ldc (pc := 20) (n := -1000001) kX7_66 dX7_ask_20 ?_
    refine q_ri (pc := 22) dX7_ask_22 rfl ?_
    refine ⟨A, ?_, fun _ _ => rfl, hC⟩
    unfold s_ask
    rw [if_neg (by omega)]
  · refine q_iload_n (pc := 11) dX7_ask_11 rfl ?_
    refine q_iconst (pc := 12) dX7_ask_12 ?_
    refine q_iconst (pc := 13) dX7_ask_13 ?_
    refine q_S3i (pc := 14) dX7_ask_14 vX7_62 (Nat.le_of_ble_eq_true rfl) (Nat.le_of_ble_eq_true rfl) (t_X7_isWithin (by omega) (by omega) (by omega)) (fun r2 σ2 hc2 => ?_)
    obtain ⟨rfl, rfl⟩ := hc2
    refine q_ifneb (pc := 17) (tgt := 23) dX7_ask_17 (by decide) (fun h17 => ?_) (fun h17 => ?_)
    · refine q_aload_n (pc := 23) dX7_ask_23 rfl ?_
      refine q_getR (pc := 24) dX7_ask_24 fX7_54 rfl rfl ?_
      refine q_aload_n (pc := 27) dX7_ask_27 rfl ?_
      refine q_getR (pc := 28) dX7_ask_28 fX7_26 rfl rfl ?_
      refine q_iload_n (pc := 31) dX7_ask_31 rfl ?_
      refine q_iload_n (pc := 32) dX7_ask_32 rfl ?_
      refine q_V3i (pc := 33) dX7_ask_33 vX7_288 rfl rfl (Nat.le_of_ble_eq_true rfl) (Nat.le_of_ble_eq_true rfl) (x_answer hC hV (by omega) (by omega)) (fun r3 σ3 hc3 => ?_)
      obtain ⟨rfl, hF3, hC3⟩ := hc3
      refine q_ri (pc := 36) dX7_ask_36 rfl ?_
      refine ⟨_, ?_, fun j hj => hF3.c (by decide) j hj, hC3⟩
      unfold s_ask
      rw [if_pos (by omega)]
    · refine q_ldc (pc := 20) (n := -1000001) kX7_66 dX7_ask_20 ?_
      refine q_ri (pc := 22) dX7_ask_22 rfl ?_
      refine ⟨A, ?_, fun _ _ => rfl, hC⟩
      unfold s_ask
      rw [if_neg (by omega)]
end T1
