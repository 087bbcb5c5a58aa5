/-! ===== the class: site ===== -/
section T7
variable {G : qGl} {d : Nat} {σ : qM} {A : qA} {tp : Int → Int} {tl : Int} {s : Int × Int} {g : Int → Int}
/-- the row before the deeds -/
def rw0 (tp : Int → Int) (tl : Int) : Int → Int := ftR tp tl 2 (ftS tp tl (ftS tp tl (laS tp tl))) (ftR tp tl 1 (ftS tp tl (laS tp tl)) (ftR tp tl 0 (laS tp tl) (laR tp tl g00)))
theorem paS_eq : paS tp tl = dsL tp tl 9 (ftS tp tl (ftS tp tl (ftS tp tl (laS tp tl))), rw0 tp tl) := rfl
theorem rw0_o {j : Int} (h : j < 1 ∨ (3 < j ∧ j < 7) ∨ 12 < j) : rw0 tp tl j = g00 j := by
  unfold rw0 ftR laR
  rw [u1_ne (by omega), u1_ne (by omega), u1_ne (by omega), u1_ne (by omega), u1_ne (by omega), u1_ne (by omega), u1_ne (by omega), u1_ne (by omega), u1_ne (by omega)]
theorem rw0_l {j : Int} (h : 1 ≤ j ∧ j ≤ 3) : rw0 tp tl j = laR tp tl g00 j := by
  unfold rw0 ftR
  rw [u1_ne (by omega), u1_ne (by omega), u1_ne (by omega), u1_ne (by omega), u1_ne (by omega), u1_ne (by omega)]
theorem rw0_h : (rw0 tp tl 7 = fh tp tl (laS tp tl) ∧ rw0 tp tl 8 = fh tp tl (ftS tp tl (laS tp tl)) ∧ rw0 tp tl 9 = fh tp tl (ftS tp tl (ftS tp tl (laS tp tl)))) ∧ (rw0 tp tl 10 = fs tp tl (laS tp tl) ∧ rw0 tp tl 11 = fs tp tl (ftS tp tl (laS tp tl)) ∧ rw0 tp tl 12 = fs tp tl (ftS tp tl (ftS tp tl (laS tp tl)))) := by
  unfold rw0 ftR fh fs
  refine ⟨⟨?_, ?_, ?_⟩, ?_, ?_, ?_⟩ <;> simp [u1]
/-- deeds change nothing but deeds and their number -/
theorem dsL_o : ∀ (m : Nat) (z : (Int × Int) × (Int → Int)) (j : Int), 0 ≤ z.2 5 → j ≠ 5 → j < 13 → (dsL tp tl m z).2 j = z.2 j
  | 0, _, _, _, _, _ => rfl
  | m + 1, z, j, h5, h1, h2 => by
    unfold dsL
    split
    · split
      · split
        · rfl
        · rw [dsL_o m _ j (by show 0 ≤ deR tp tl z.1 z.2 5; rw [deR_5]; omega) h1 h2]
          show deR tp tl z.1 z.2 j = z.2 j
          unfold deR
          rw [u1_ne h1, u1_ne (by omega), u1_ne (by omega), u1_ne (by omega)]
      · split
        · rfl
        · rfl
    · rfl
theorem paS_in (hK : TK tp tl) : ∀ (m : Nat) (z : (Int × Int) × (Int → Int)), sIn tl z.1 → sIn tl (dsL tp tl m z).1
  | 0, _, h => h
  | m + 1, z, h => by
    have h1 := h.1
    have h2 := h.2
    unfold dsL
    split
    · split
      · rename_i c
        split
        · exact ⟨by show (0 : Int) ≤ 3 ∧ (3 : Int) ≤ 3; omega, h2⟩
        · exact paS_in hK m _ (ntS_in (ntS_in ⟨by show (0 : Int) ≤ 0 ∧ (0 : Int) ≤ 3; omega, by show 0 ≤ z.1.2 + 1 ∧ z.1.2 + 1 ≤ tl; have := c.1; omega⟩))
      · split
        · exact h
        · refine ⟨?_, h2⟩
          show 0 ≤ (if _ then (3 : Int) else 1) ∧ (if _ then (3 : Int) else 1) ≤ 3
          split <;> omega
    · exact h
theorem x_deeds (hT : TP σ tp tl s) (hK : TK tp tl) (h0 : s.1 = 0) (hI : sIn tl s) (h5 : σ 22 5 = g 5) (hg : g 5 = 0) : qE G mX6_readDeeds (d + 4) 0 [(0, vr 13), (1, vr 22)] [] σ (ri fun r σ1 => bi ((dsL tp tl 9 (s, g)).1.1 = 0) = r ∧ Fr σ σ1 [13, 22, 23, 24, 25] ∧ TP σ1 tp tl (dsL tp tl 9 (s, g)).1 ∧ (∀ i, i ≠ 5 → σ1 22 i = σ 22 i) ∧ ((dsL tp tl 9 (s, g)).1.1 = 0 → DeR σ1 22 (dsL tp tl 9 (s, g)).2 ∧ σ1 22 5 = (dsL tp tl 9 (s, g)).2 5)) := by
  refine q_iconst (pc := 0) dX6_readDeeds_0 ?_
  refine q_istore_n (pc := 1) dX6_readDeeds_1 (Nat.le_of_ble_eq_true rfl) ?_
  exact x_deeds_l hK 7 0 s g σ rfl hT h0 hI h5 (by rw [hg]; rfl) (fun i a b => by omega)
theorem x_readInto (h1 : σ 13 1 = tl) (hb : ∀ j, 0 ≤ j → j < tl → σ 14 j = tp j) (hK : TK tp tl) : qE G mX6_readInto (d + 5) 0 [(0, vr 13), (1, vr 22)] [] σ (ri fun r σ1 => bi ((paS tp tl).1.1 = 0) = r ∧ Fr σ σ1 [13, 22, 23, 24, 25, 27, 28] ∧ TP σ1 tp tl (paS tp tl).1 ∧ ((paS tp tl).1.1 = 0 → SiR σ1 22 (paS tp tl).2)) := by
  have i0 : sIn tl (laS tp tl) := ntS_in (ntS_in (ntS_in (tkS_in (s00 hK))))
  have i3 : sIn tl (ftS tp tl (ftS tp tl (ftS tp tl (laS tp tl)))) := ftS_in (ftS_in (ftS_in i0))
  have g5 : rw0 tp tl 5 = 0 := (rw0_o (by omega)).trans (by unfold g00; simp)
  have hT0 : TP (up (up σ 13 2 0) 13 3 0) tp tl (0, 0) := by
    refine ⟨?_, ?_, ?_, ?_⟩
    · rw [up_same, if_neg (by omega), up_same, if_neg (by omega)]; exact h1
    · rw [up_same, if_neg (by omega), up_same, if_pos rfl]
    · rw [up_same, if_pos rfl]
    · rw [up_ne (by omega), up_ne (by omega)]; exact hb
  have hF0 : Fr σ (up (up σ 13 2 0) 13 3 0) [13, 22, 23, 24, 25, 27, 28] := Fr.tt (Fr.up (by simp)) (Fr.up (by simp))
  refine q_aload_n (pc := 0) dX6_readInto_0 rfl ?_
  refine q_iconst (pc := 1) dX6_readInto_1 ?_
  refine q_pI (pc := 2) 2 dX6_readInto_2 wX6_19 rfl rfl rfl ?_
  refine q_aload_n (pc := 5) dX6_readInto_5 rfl ?_
  refine q_iconst (pc := 6) dX6_readInto_6 ?_
  refine q_pI (pc := 7) 3 dX6_readInto_7 wX6_22 rfl rfl rfl ?_
  generalize up (up σ 13 2 0) 13 3 0 = τ0 at hT0 hF0 ⊢
  have hFk : Fr τ0 (up (up (up (up τ0 22 0 0) 22 4 0) 22 5 0) 22 6 0) [22] := Fr.tt (Fr.tt (Fr.tt (Fr.up (by simp)) (Fr.up (by simp))) (Fr.up (by simp))) (Fr.up (by simp))
  have hTk := hT0.fr hFk (by simp) (by simp)
  have k4 : up (up (up (up τ0 22 0 0) 22 4 0) 22 5 0) 22 6 0 22 4 = 0 := by simp [up_same]
  have k5 : up (up (up (up τ0 22 0 0) 22 4 0) 22 5 0) 22 6 0 22 5 = 0 := by simp [up_same]
  have k6 : up (up (up (up τ0 22 0 0) 22 4 0) 22 5 0) 22 6 0 22 6 = 0 := by simp [up_same]
  have hF0k : Fr σ (up (up (up (up τ0 22 0 0) 22 4 0) 22 5 0) 22 6 0) [13, 22, 23, 24, 25, 27, 28] := hF0.tt (hFk.wk (by simp))
  refine q_aload_n (pc := 10) dX6_readInto_10 rfl ?_
  refine q_V0v (pc := 11) dX6_readInto_11 vX6_25 rfl rfl (Nat.le_of_ble_eq_true rfl) (Nat.le_of_ble_eq_true rfl) (t_X4_clear) (fun σ1 hc1 => ?_)
  obtain rfl := hc1
  generalize up (up (up (up τ0 22 0 0) 22 4 0) 22 5 0) 22 6 0 = τ at hTk k4 k5 k6 hF0k ⊢
  refine q_aload_n (pc := 14) dX6_readInto_14 rfl ?_
  refine q_aload_n (pc := 15) dX6_readInto_15 rfl ?_
  refine q_aload_n (pc := 16) dX6_readInto_16 rfl ?_
  refine q_V1i (pc := 17) dX6_readInto_17 vX6_30 rfl rfl (Nat.le_of_ble_eq_true rfl) (Nat.le_of_ble_eq_true rfl) (x_readLaw hTk hK) (fun r2 σ2 hc2 => ?_)
  obtain ⟨rfl, hFl, hTl, hl22, hl3⟩ := hc2
  refine q_ifeqb (pc := 20) (tgt := 46) dX6_readInto_20 (by decide) (fun h20 => ?_) (fun h20 => ?_)
  · refine q_iconst (pc := 46) dX6_readInto_46 ?_
    refine q_pZ (pc := 47) 0 dX6_readInto_47 wX6_45 rfl rfl rfl (by first | exact bi_01 _ | omega) ?_
    refine q_aload_n (pc := 50) dX6_readInto_50 rfl ?_
    refine q_gI (pc := 51) 0 dX6_readInto_51 fX6_45 rfl rfl rfl ?_
    rw [up_same, if_pos rfl]
    refine q_rz (pc := 54) dX6_readInto_54 rfl (by first | exact bi_01 _ | omega) ?_
    first
    | (have e : paS tp tl = (laS tp tl, rw0 tp tl) := by
         have z : (laS tp tl).1 ≠ 0 := by assumption
         rw [paS_eq, ftS_f z, ftS_f z, ftS_f z, dsL_f z]
       rw [e]
       refine ⟨?_, hF0k.tt ((hFl.wk (by simp)).tt (Fr.up (by simp))), hTl.fr (S := [22]) (Fr.up (by simp)) (by simp) (by simp), fun z => absurd z (by assumption)⟩
       exact bi_f (by assumption))
    | (have e : paS tp tl = (ftS tp tl (ftS tp tl (ftS tp tl (laS tp tl))), rw0 tp tl) := by
         have z : (ftS tp tl (ftS tp tl (ftS tp tl (laS tp tl)))).1 ≠ 0 := by assumption
         rw [paS_eq, dsL_f z]
       rw [e]
       refine ⟨?_, hF0k.tt ((hFl.wk (by simp)).tt ((hFf.wk (by simp)).tt (Fr.up (by simp)))), hTf.fr (S := [22]) (Fr.up (by simp)) (by simp) (by simp), fun z => absurd z (by assumption)⟩
       exact bi_f (by assumption))
    | (rw [paS_eq]
       exact ⟨bi_f (by assumption), hF0k.tt ((hFl.wk (by simp)).tt ((hFf.wk (by simp)).tt ((hFd.wk (by simp)).tt (Fr.up (by simp))))), hTd.fr (S := [22]) (Fr.up (by simp)) (by simp) (by simp), fun z => absurd z (by assumption)⟩)
    | (rw [paS_eq]
       refine ⟨?_, hF0k.tt ((hFl.wk (by simp)).tt ((hFf.wk (by simp)).tt ((hFd.wk (by simp)).tt (Fr.up (by simp))))), hTd.fr (S := [22]) (Fr.up (by simp)) (by simp) (by simp), fun z => ?_⟩
       · first | exact bi_f (by assumption) | exact bi_t (by assumption)
       · obtain ⟨d1, d2⟩ := hd z
         obtain ⟨l1, l2, l3⟩ := hl3 (by assumption)
         obtain ⟨⟨f1, f2, f3⟩, f4, f5, f6⟩ := hf3 (by assumption)
         obtain ⟨⟨r1, r2, r3⟩, r4, r5, r6⟩ := rw0_h (tp := tp) (tl := tl)
         have o : ∀ j, j ≠ 5 → j < 13 → (dsL tp tl 9 (ftS tp tl (ftS tp tl (ftS tp tl (laS tp tl))), rw0 tp tl)).2 j = rw0 tp tl j := fun j a b => dsL_o 9 _ j (by show 0 ≤ rw0 tp tl 5; omega) a b
         have q22 : ∀ i, i ≠ 0 → up σ0 22 0 1 22 i = σ0 22 i := fun i hi => by rw [up_same, if_neg hi]
         have qo : ∀ j : Nat, j ≠ 22 → up σ0 22 0 1 j = σ0 j := fun j hj => up_ne hj
         refine ⟨⟨?_, ?_, ?_, ?_⟩, fun _ => ⟨?_, ?_, ?_⟩, ?_, ?_⟩
         · rw [up_same, if_pos rfl, o 0 (by omega) (by omega), rw0_o (by omega)]; rfl
         · rw [q22 4 (by omega), hd22 4 (by omega), hFf 22 (by simp), hl22 4 (by omega) (by omega) (by omega), k4, o 4 (by omega) (by omega), rw0_o (by omega)]; rfl
         · rw [q22 5 (by omega)]; exact d2
         · rw [q22 6 (by omega), hd22 6 (by omega), hFf 22 (by simp), hl22 6 (by omega) (by omega) (by omega), k6, o 6 (by omega) (by omega), rw0_o (by omega)]; rfl
         · rw [q22 1 (by omega), hd22 1 (by omega), hFf 22 (by simp), l1, o 1 (by omega) (by omega), rw0_l (by omega)]
         · rw [q22 2 (by omega), hd22 2 (by omega), hFf 22 (by simp), l2, o 2 (by omega) (by omega), rw0_l (by omega)]
         · rw [q22 3 (by omega), hd22 3 (by omega), hFf 22 (by simp), l3, o 3 (by omega) (by omega), rw0_l (by omega)]
         · unfold StR
           rw [qo (22 + 4 + 1) (by omega), qo (22 + 4 + 2) (by omega), o 7 (by omega) (by omega), o 8 (by omega) (by omega), o 9 (by omega) (by omega), o 10 (by omega) (by omega), o 11 (by omega) (by omega), o 12 (by omega) (by omega), hFd (22 + 4 + 1) (by simp), hFd (22 + 4 + 2) (by simp), r1, r2, r3, r4, r5, r6]
           exact ⟨f1, f2, f3, f4, f5, f6⟩
         · unfold DeR
           rw [qo _ (by omega), qo _ (by omega), qo _ (by omega)]
           exact d1)
  · refine q_aload_n (pc := 23) dX6_readInto_23 rfl ?_
    refine q_aload_n (pc := 24) dX6_readInto_24 rfl ?_
    refine q_getR (pc := 25) dX6_readInto_25 fX6_34 rfl rfl ?_
    refine q_V1i (pc := 28) dX6_readInto_28 vX6_38 rfl rfl (Nat.le_of_ble_eq_true rfl) (Nat.le_of_ble_eq_true rfl) (x_allFeet hTl hK (by assumption) i0) (fun r3 σ3 hc3 => ?_)
    obtain ⟨rfl, hFf, hTf, hf3⟩ := hc3
    refine q_ifeqb (pc := 31) (tgt := 46) dX6_readInto_31 (by decide) (fun h31 => ?_) (fun h31 => ?_)
    · refine q_iconst (pc := 46) dX6_readInto_46 ?_
      refine q_pZ (pc := 47) 0 dX6_readInto_47 wX6_45 rfl rfl rfl (by first | exact bi_01 _ | omega) ?_
      refine q_aload_n (pc := 50) dX6_readInto_50 rfl ?_
      refine q_gI (pc := 51) 0 dX6_readInto_51 fX6_45 rfl rfl rfl ?_
      rw [up_same, if_pos rfl]
      refine q_rz (pc := 54) dX6_readInto_54 rfl (by first | exact bi_01 _ | omega) ?_
      first
      | (have e : paS tp tl = (laS tp tl, rw0 tp tl) := by
           have z : (laS tp tl).1 ≠ 0 := by assumption
           rw [paS_eq, ftS_f z, ftS_f z, ftS_f z, dsL_f z]
         rw [e]
         refine ⟨?_, hF0k.tt ((hFl.wk (by simp)).tt (Fr.up (by simp))), hTl.fr (S := [22]) (Fr.up (by simp)) (by simp) (by simp), fun z => absurd z (by assumption)⟩
         exact bi_f (by assumption))
      | (have e : paS tp tl = (ftS tp tl (ftS tp tl (ftS tp tl (laS tp tl))), rw0 tp tl) := by
           have z : (ftS tp tl (ftS tp tl (ftS tp tl (laS tp tl)))).1 ≠ 0 := by assumption
           rw [paS_eq, dsL_f z]
         rw [e]
         refine ⟨?_, hF0k.tt ((hFl.wk (by simp)).tt ((hFf.wk (by simp)).tt (Fr.up (by simp)))), hTf.fr (S := [22]) (Fr.up (by simp)) (by simp) (by simp), fun z => absurd z (by assumption)⟩
         exact bi_f (by assumption))
      | (rw [paS_eq]
         exact ⟨bi_f (by assumption), hF0k.tt ((hFl.wk (by simp)).tt ((hFf.wk (by simp)).tt ((hFd.wk (by simp)).tt (Fr.up (by simp))))), hTd.fr (S := [22]) (Fr.up (by simp)) (by simp) (by simp), fun z => absurd z (by assumption)⟩)
      | (rw [paS_eq]
         refine ⟨?_, hF0k.tt ((hFl.wk (by simp)).tt ((hFf.wk (by simp)).tt ((hFd.wk (by simp)).tt (Fr.up (by simp))))), hTd.fr (S := [22]) (Fr.up (by simp)) (by simp) (by simp), fun z => ?_⟩
         · first | exact bi_f (by assumption) | exact bi_t (by assumption)
         · obtain ⟨d1, d2⟩ := hd z
           obtain ⟨l1, l2, l3⟩ := hl3 (by assumption)
           obtain ⟨⟨f1, f2, f3⟩, f4, f5, f6⟩ := hf3 (by assumption)
           obtain ⟨⟨r1, r2, r3⟩, r4, r5, r6⟩ := rw0_h (tp := tp) (tl := tl)
           have o : ∀ j, j ≠ 5 → j < 13 → (dsL tp tl 9 (ftS tp tl (ftS tp tl (ftS tp tl (laS tp tl))), rw0 tp tl)).2 j = rw0 tp tl j := fun j a b => dsL_o 9 _ j (by show 0 ≤ rw0 tp tl 5; omega) a b
           have q22 : ∀ i, i ≠ 0 → up σ0 22 0 1 22 i = σ0 22 i := fun i hi => by rw [up_same, if_neg hi]
           have qo : ∀ j : Nat, j ≠ 22 → up σ0 22 0 1 j = σ0 j := fun j hj => up_ne hj
           refine ⟨⟨?_, ?_, ?_, ?_⟩, fun _ => ⟨?_, ?_, ?_⟩, ?_, ?_⟩
           · rw [up_same, if_pos rfl, o 0 (by omega) (by omega), rw0_o (by omega)]; rfl
           · rw [q22 4 (by omega), hd22 4 (by omega), hFf 22 (by simp), hl22 4 (by omega) (by omega) (by omega), k4, o 4 (by omega) (by omega), rw0_o (by omega)]; rfl
           · rw [q22 5 (by omega)]; exact d2
           · rw [q22 6 (by omega), hd22 6 (by omega), hFf 22 (by simp), hl22 6 (by omega) (by omega) (by omega), k6, o 6 (by omega) (by omega), rw0_o (by omega)]; rfl
           · rw [q22 1 (by omega), hd22 1 (by omega), hFf 22 (by simp), l1, o 1 (by omega) (by omega), rw0_l (by omega)]
           · rw [q22 2 (by omega), hd22 2 (by omega), hFf 22 (by simp), l2, o 2 (by omega) (by omega), rw0_l (by omega)]
           · rw [q22 3 (by omega), hd22 3 (by omega), hFf 22 (by simp), l3, o 3 (by omega) (by omega), rw0_l (by omega)]
           · unfold StR
             rw [qo (22 + 4 + 1) (by omega), qo (22 + 4 + 2) (by omega), o 7 (by omega) (by omega), o 8 (by omega) (by omega), o 9 (by omega) (by omega), o 10 (by omega) (by omega), o 11 (by omega) (by omega), o 12 (by omega) (by omega), hFd (22 + 4 + 1) (by simp), hFd (22 + 4 + 2) (by simp), r1, r2, r3, r4, r5, r6]
             exact ⟨f1, f2, f3, f4, f5, f6⟩
           · unfold DeR
             rw [qo _ (by omega), qo _ (by omega), qo _ (by omega)]
             exact d1)
    · refine q_aload_n (pc := 34) dX6_readInto_34 rfl ?_
      refine q_aload_n (pc := 35) dX6_readInto_35 rfl ?_
      refine q_V1i (pc := 36) dX6_readInto_36 vX6_42 rfl rfl (Nat.le_of_ble_eq_true rfl) (Nat.le_of_ble_eq_true rfl) (x_deeds (g := rw0 tp tl) hTf hK (by assumption) i3 (by rw [hFf 22 (by simp), hl22 5 (by omega) (by omega) (by omega), k5, g5]) g5) (fun r4 σ4 hc4 => ?_)
      obtain ⟨rfl, hFd, hTd, hd22, hd⟩ := hc4
      refine q_ifeqb (pc := 39) (tgt := 46) dX6_readInto_39 (by decide) (fun h39 => ?_) (fun h39 => ?_)
      · refine q_iconst (pc := 46) dX6_readInto_46 ?_
        refine q_pZ (pc := 47) 0 dX6_readInto_47 wX6_45 rfl rfl rfl (by first | exact bi_01 _ | omega) ?_
        refine q_aload_n (pc := 50) dX6_readInto_50 rfl ?_
        refine q_gI (pc := 51) 0 dX6_readInto_51 fX6_45 rfl rfl rfl ?_
        rw [up_same, if_pos rfl]
        refine q_rz (pc := 54) dX6_readInto_54 rfl (by first | exact bi_01 _ | omega) ?_
        first
        | (have e : paS tp tl = (laS tp tl, rw0 tp tl) := by
             have z : (laS tp tl).1 ≠ 0 := by assumption
             rw [paS_eq, ftS_f z, ftS_f z, ftS_f z, dsL_f z]
           rw [e]
           refine ⟨?_, hF0k.tt ((hFl.wk (by simp)).tt (Fr.up (by simp))), hTl.fr (S := [22]) (Fr.up (by simp)) (by simp) (by simp), fun z => absurd z (by assumption)⟩
           exact bi_f (by assumption))
        | (have e : paS tp tl = (ftS tp tl (ftS tp tl (ftS tp tl (laS tp tl))), rw0 tp tl) := by
             have z : (ftS tp tl (ftS tp tl (ftS tp tl (laS tp tl)))).1 ≠ 0 := by assumption
             rw [paS_eq, dsL_f z]
           rw [e]
           refine ⟨?_, hF0k.tt ((hFl.wk (by simp)).tt ((hFf.wk (by simp)).tt (Fr.up (by simp)))), hTf.fr (S := [22]) (Fr.up (by simp)) (by simp) (by simp), fun z => absurd z (by assumption)⟩
           exact bi_f (by assumption))
        | (rw [paS_eq]
           exact ⟨bi_f (by assumption), hF0k.tt ((hFl.wk (by simp)).tt ((hFf.wk (by simp)).tt ((hFd.wk (by simp)).tt (Fr.up (by simp))))), hTd.fr (S := [22]) (Fr.up (by simp)) (by simp) (by simp), fun z => absurd z (by assumption)⟩)
        | (rw [paS_eq]
           refine ⟨?_, hF0k.tt ((hFl.wk (by simp)).tt ((hFf.wk (by simp)).tt ((hFd.wk (by simp)).tt (Fr.up (by simp))))), hTd.fr (S := [22]) (Fr.up (by simp)) (by simp) (by simp), fun z => ?_⟩
           · first | exact bi_f (by assumption) | exact bi_t (by assumption)
           · obtain ⟨d1, d2⟩ := hd z
             obtain ⟨l1, l2, l3⟩ := hl3 (by assumption)
             obtain ⟨⟨f1, f2, f3⟩, f4, f5, f6⟩ := hf3 (by assumption)
             obtain ⟨⟨r1, r2, r3⟩, r4, r5, r6⟩ := rw0_h (tp := tp) (tl := tl)
             have o : ∀ j, j ≠ 5 → j < 13 → (dsL tp tl 9 (ftS tp tl (ftS tp tl (ftS tp tl (laS tp tl))), rw0 tp tl)).2 j = rw0 tp tl j := fun j a b => dsL_o 9 _ j (by show 0 ≤ rw0 tp tl 5; omega) a b
             have q22 : ∀ i, i ≠ 0 → up σ4 22 0 1 22 i = σ4 22 i := fun i hi => by rw [up_same, if_neg hi]
             have qo : ∀ j : Nat, j ≠ 22 → up σ4 22 0 1 j = σ4 j := fun j hj => up_ne hj
             refine ⟨⟨?_, ?_, ?_, ?_⟩, fun _ => ⟨?_, ?_, ?_⟩, ?_, ?_⟩
             · rw [up_same, if_pos rfl, o 0 (by omega) (by omega), rw0_o (by omega)]; rfl
             · rw [q22 4 (by omega), hd22 4 (by omega), hFf 22 (by simp), hl22 4 (by omega) (by omega) (by omega), k4, o 4 (by omega) (by omega), rw0_o (by omega)]; rfl
             · rw [q22 5 (by omega)]; exact d2
             · rw [q22 6 (by omega), hd22 6 (by omega), hFf 22 (by simp), hl22 6 (by omega) (by omega) (by omega), k6, o 6 (by omega) (by omega), rw0_o (by omega)]; rfl
             · rw [q22 1 (by omega), hd22 1 (by omega), hFf 22 (by simp), l1, o 1 (by omega) (by omega), rw0_l (by omega)]
             · rw [q22 2 (by omega), hd22 2 (by omega), hFf 22 (by simp), l2, o 2 (by omega) (by omega), rw0_l (by omega)]
             · rw [q22 3 (by omega), hd22 3 (by omega), hFf 22 (by simp), l3, o 3 (by omega) (by omega), rw0_l (by omega)]
             · unfold StR
               rw [qo (22 + 4 + 1) (by omega), qo (22 + 4 + 2) (by omega), o 7 (by omega) (by omega), o 8 (by omega) (by omega), o 9 (by omega) (by omega), o 10 (by omega) (by omega), o 11 (by omega) (by omega), o 12 (by omega) (by omega), hFd (22 + 4 + 1) (by simp), hFd (22 + 4 + 2) (by simp), r1, r2, r3, r4, r5, r6]
               exact ⟨f1, f2, f3, f4, f5, f6⟩
             · unfold DeR
               rw [qo _ (by omega), qo _ (by omega), qo _ (by omega)]
               exact d1)
      · refine q_iconst (pc := 42) dX6_readInto_42 ?_
        refine q_goto (pc := 43) (tgt := 47) dX6_readInto_43 (by decide) ?_
        refine q_pZ (pc := 47) 0 dX6_readInto_47 wX6_45 rfl rfl rfl (by first | exact bi_01 _ | omega) ?_
        refine q_aload_n (pc := 50) dX6_readInto_50 rfl ?_
        refine q_gI (pc := 51) 0 dX6_readInto_51 fX6_45 rfl rfl rfl ?_
        rw [up_same, if_pos rfl]
        refine q_rz (pc := 54) dX6_readInto_54 rfl (by first | exact bi_01 _ | omega) ?_
        first
        | (have e : paS tp tl = (laS tp tl, rw0 tp tl) := by
             have z : (laS tp tl).1 ≠ 0 := by assumption
             rw [paS_eq, ftS_f z, ftS_f z, ftS_f z, dsL_f z]
           rw [e]
           refine ⟨?_, hF0k.tt ((hFl.wk (by simp)).tt (Fr.up (by simp))), hTl.fr (S := [22]) (Fr.up (by simp)) (by simp) (by simp), fun z => absurd z (by assumption)⟩
           exact bi_f (by assumption))
        | (have e : paS tp tl = (ftS tp tl (ftS tp tl (ftS tp tl (laS tp tl))), rw0 tp tl) := by
             have z : (ftS tp tl (ftS tp tl (ftS tp tl (laS tp tl)))).1 ≠ 0 := by assumption
             rw [paS_eq, dsL_f z]
           rw [e]
           refine ⟨?_, hF0k.tt ((hFl.wk (by simp)).tt ((hFf.wk (by simp)).tt (Fr.up (by simp)))), hTf.fr (S := [22]) (Fr.up (by simp)) (by simp) (by simp), fun z => absurd z (by assumption)⟩
           exact bi_f (by assumption))
        | (rw [paS_eq]
           exact ⟨bi_f (by assumption), hF0k.tt ((hFl.wk (by simp)).tt ((hFf.wk (by simp)).tt ((hFd.wk (by simp)).tt (Fr.up (by simp))))), hTd.fr (S := [22]) (Fr.up (by simp)) (by simp) (by simp), fun z => absurd z (by assumption)⟩)
        | (rw [paS_eq]
           refine ⟨?_, hF0k.tt ((hFl.wk (by simp)).tt ((hFf.wk (by simp)).tt ((hFd.wk (by simp)).tt (Fr.up (by simp))))), hTd.fr (S := [22]) (Fr.up (by simp)) (by simp) (by simp), fun z => ?_⟩
           · first | exact bi_f (by assumption) | exact bi_t (by assumption)
           · obtain ⟨d1, d2⟩ := hd z
             obtain ⟨l1, l2, l3⟩ := hl3 (by assumption)
             obtain ⟨⟨f1, f2, f3⟩, f4, f5, f6⟩ := hf3 (by assumption)
             obtain ⟨⟨r1, r2, r3⟩, r4, r5, r6⟩ := rw0_h (tp := tp) (tl := tl)
             have o : ∀ j, j ≠ 5 → j < 13 → (dsL tp tl 9 (ftS tp tl (ftS tp tl (ftS tp tl (laS tp tl))), rw0 tp tl)).2 j = rw0 tp tl j := fun j a b => dsL_o 9 _ j (by show 0 ≤ rw0 tp tl 5; omega) a b
             have q22 : ∀ i, i ≠ 0 → up σ4 22 0 1 22 i = σ4 22 i := fun i hi => by rw [up_same, if_neg hi]
             have qo : ∀ j : Nat, j ≠ 22 → up σ4 22 0 1 j = σ4 j := fun j hj => up_ne hj
             refine ⟨⟨?_, ?_, ?_, ?_⟩, fun _ => ⟨?_, ?_, ?_⟩, ?_, ?_⟩
             · rw [up_same, if_pos rfl, o 0 (by omega) (by omega), rw0_o (by omega)]; rfl
             · rw [q22 4 (by omega), hd22 4 (by omega), hFf 22 (by simp), hl22 4 (by omega) (by omega) (by omega), k4, o 4 (by omega) (by omega), rw0_o (by omega)]; rfl
             · rw [q22 5 (by omega)]; exact d2
             · rw [q22 6 (by omega), hd22 6 (by omega), hFf 22 (by simp), hl22 6 (by omega) (by omega) (by omega), k6, o 6 (by omega) (by omega), rw0_o (by omega)]; rfl
             · rw [q22 1 (by omega), hd22 1 (by omega), hFf 22 (by simp), l1, o 1 (by omega) (by omega), rw0_l (by omega)]
             · rw [q22 2 (by omega), hd22 2 (by omega), hFf 22 (by simp), l2, o 2 (by omega) (by omega), rw0_l (by omega)]
             · rw [q22 3 (by omega), hd22 3 (by omega), hFf 22 (by simp), l3, o 3 (by omega) (by omega), rw0_l (by omega)]
             · unfold StR
               rw [qo (22 + 4 + 1) (by omega), qo (22 + 4 + 2) (by omega), o 7 (by omega) (by omega), o 8 (by omega) (by omega), o 9 (by omega) (by omega), o 10 (by omega) (by omega), o 11 (by omega) (by omega), o 12 (by omega) (by omega), hFd (22 + 4 + 1) (by simp), hFd (22 + 4 + 2) (by simp), r1, r2, r3, r4, r5, r6]
               exact ⟨f1, f2, f3, f4, f5, f6⟩
             · unfold DeR
               rw [qo _ (by omega), qo _ (by omega), qo _ (by omega)]
               exact d1)
/-! the row that a whole text tells -/
theorem dsL_row {f0 : Int} : ∀ (m : Nat) (z : (Int × Int) × (Int → Int)), (0 ≤ z.2 5 ∧ z.2 5 ≤ 7) → (∀ i, 0 ≤ i → i < z.2 5 → (1 ≤ z.2 (13 + 3 * i) ∧ z.2 (13 + 3 * i) ≤ 5) ∧ (0 ≤ z.2 (14 + 3 * i) ∧ z.2 (14 + 3 * i) ≤ 2) ∧ (1 ≤ z.2 (15 + 3 * i) ∧ z.2 (15 + 3 * i) ≤ 20)) → (dsL tp tl m z).1.1 = 0 → 9 ≤ m + z.2 5 → z.1.1 = 0 → (1 ≤ (dsL tp tl m z).2 5 ∧ (dsL tp tl m z).2 5 ≤ 7) ∧ ∀ i, 0 ≤ i → i < (dsL tp tl m z).2 5 → (1 ≤ (dsL tp tl m z).2 (13 + 3 * i) ∧ (dsL tp tl m z).2 (13 + 3 * i) ≤ 5) ∧ (0 ≤ (dsL tp tl m z).2 (14 + 3 * i) ∧ (dsL tp tl m z).2 (14 + 3 * i) ≤ 2) ∧ (1 ≤ (dsL tp tl m z).2 (15 + 3 * i) ∧ (dsL tp tl m z).2 (15 + 3 * i) ≤ 20)
  | 0, z, h5, hd, he, hm, h0 => by omega
  | m + 1, z, h5, hd, he, hm, h0 => by
    by_cases ce : z.1.2 = tl ∧ 0 < z.2 5
    · rw [dsL_e h0 ce]
      exact ⟨by omega, hd⟩
    · rw [dsL_s h0 ce] at he ⊢
      have hk := kb_in (tp z.1.2)
      by_cases c : z.1.2 < tl ∧ kb (tp z.1.2) ≠ 0
      · by_cases c2 : z.2 5 = 7
        · have e : dS1 tp tl z = ((3, z.1.2), z.2) := by unfold dS1; rw [if_pos c, if_pos c2]
          rw [e, dsL_f (by simp)] at he
          exact absurd he (by simp)
        · have e : dS1 tp tl z = (deS tp tl z.1, deR tp tl z.1 z.2) := by unfold dS1; rw [if_pos c, if_neg c2]
          rw [e] at he ⊢
          by_cases c3 : (deS tp tl z.1).1 = 0
          · have ok := deS_ok c3
            refine dsL_row (f0 := f0) m (deS tp tl z.1, deR tp tl z.1 z.2) (by show 0 ≤ deR tp tl z.1 z.2 5 ∧ deR tp tl z.1 z.2 5 ≤ 7; rw [deR_5]; omega) (fun i a b => ?_) he (by show 9 ≤ (m : Int) + deR tp tl z.1 z.2 5; rw [deR_5]; push_cast at hm; omega) c3
            have b : i < deR tp tl z.1 z.2 5 := b
            rw [deR_5] at b
            show (1 ≤ deR tp tl z.1 z.2 (13 + 3 * i) ∧ deR tp tl z.1 z.2 (13 + 3 * i) ≤ 5) ∧ (0 ≤ deR tp tl z.1 z.2 (14 + 3 * i) ∧ deR tp tl z.1 z.2 (14 + 3 * i) ≤ 2) ∧ (1 ≤ deR tp tl z.1 z.2 (15 + 3 * i) ∧ deR tp tl z.1 z.2 (15 + 3 * i) ≤ 20)
            by_cases c4 : i = z.2 5
            · have q1 : deR tp tl z.1 z.2 (13 + 3 * i) = kb (tp z.1.2) := by rw [c4]; unfold deR; rw [u1_ne (by omega), u1_ne (by omega), u1_ne (by omega), u1_eq]
              have q2 : deR tp tl z.1 z.2 (14 + 3 * i) = nvS tp tl (0, z.1.2 + 1) := by rw [c4]; unfold deR; rw [u1_ne (by omega), u1_ne (by omega), u1_eq]
              have q3 : deR tp tl z.1 z.2 (15 + 3 * i) = nvS tp tl (ntS tp tl 0 2 44 (0, z.1.2 + 1)) := by rw [c4]; unfold deR; rw [u1_ne (by omega), u1_eq]
              rw [q1, q2, q3]
              exact ⟨by have := c.2; omega, ok.1, ok.2⟩
            · have r1 : ∀ j, j ≠ 5 → j ≠ 13 + 3 * z.2 5 → j ≠ 14 + 3 * z.2 5 → j ≠ 15 + 3 * z.2 5 → deR tp tl z.1 z.2 j = z.2 j := fun j a b c e => by unfold deR; rw [u1_ne a, u1_ne e, u1_ne c, u1_ne b]
              rw [r1 _ (by omega) (by omega) (by omega) (by omega), r1 _ (by omega) (by omega) (by omega) (by omega), r1 _ (by omega) (by omega) (by omega) (by omega)]
              exact hd i a (by omega)
          · rw [dsL_f c3] at he
            exact absurd he c3
      · have n1 : (dS1 tp tl z).1.1 ≠ 0 := by
          unfold dS1
          rw [if_neg c]
          show (if _ then (3 : Int) else 1) ≠ 0
          split <;> omega
        rw [dsL_f n1] at he
        exact absurd he n1
theorem dsL_0 {z : (Int × Int) × (Int → Int)} (m : Nat) (h : (dsL tp tl m z).1.1 = 0) : z.1.1 = 0 := by
  by_cases c : z.1.1 = 0
  · exact c
  · rw [dsL_f c] at h; exact h
theorem ftS_0 (h : (ftS tp tl s).1 = 0) : s.1 = 0 ∧ (0 ≤ fh tp tl s ∧ fh tp tl s ≤ 60) ∧ (0 ≤ fs tp tl s ∧ fs tp tl s ≤ 9) := by
  have h1 := ntS_ok h
  have h2 := ntS_ok h1.1
  have h3 := tkS_ok h2.1
  exact ⟨h3.1, h2.2, h1.2⟩
theorem paS_row (h : (paS tp tl).1.1 = 0) : Row (paS tp tl).2 ∧ (paS tp tl).2 0 = 1 := by
  rw [paS_eq] at h ⊢
  have h3 := dsL_0 9 h
  have g5 : rw0 tp tl 5 = 0 := (rw0_o (by omega)).trans (by unfold g00; simp)
  have f3 := ftS_0 h3
  have f2 := ftS_0 f3.1
  have f1 := ftS_0 f2.1
  have l3 := ntS_ok f1.1
  have l2 := ntS_ok l3.1
  have l1 := ntS_ok l2.1
  have hr := dsL_row (tp := tp) (tl := tl) (f0 := 0) 9 (ftS tp tl (ftS tp tl (ftS tp tl (laS tp tl))), rw0 tp tl) (by show 0 ≤ rw0 tp tl 5 ∧ rw0 tp tl 5 ≤ 7; omega) (fun i a b => by have b : i < rw0 tp tl 5 := b; omega) h (by show (9 : Int) ≤ ((9 : Nat) : Int) + rw0 tp tl 5; omega) h3
  have o : ∀ j, j ≠ 5 → j < 13 → (dsL tp tl 9 (ftS tp tl (ftS tp tl (ftS tp tl (laS tp tl))), rw0 tp tl)).2 j = rw0 tp tl j := fun j a b => dsL_o 9 _ j (by show 0 ≤ rw0 tp tl 5; omega) a b
  obtain ⟨⟨r1, r2, r3⟩, r4, r5, r6⟩ := rw0_h (tp := tp) (tl := tl)
  have e0 : rw0 tp tl 0 = 1 := (rw0_o (by omega)).trans (by unfold g00; simp)
  have e4 : rw0 tp tl 4 = 0 := (rw0_o (by omega)).trans (by unfold g00; simp)
  have e6 : rw0 tp tl 6 = 0 := (rw0_o (by omega)).trans (by unfold g00; simp)
  have q1 : rw0 tp tl 1 = nvS tp tl (tkS tp tl 110 (0, 0)) := (rw0_l (by omega)).trans (by unfold laR; rw [u1_ne (by omega), u1_ne (by omega), u1_eq])
  have q2 : rw0 tp tl 2 = nvS tp tl (ntS tp tl 0 9 44 (tkS tp tl 110 (0, 0))) := (rw0_l (by omega)).trans (by unfold laR; rw [u1_ne (by omega), u1_eq])
  have q3 : rw0 tp tl 3 = nvS tp tl (ntS tp tl 0 9 44 (ntS tp tl 0 9 44 (tkS tp tl 110 (0, 0)))) := (rw0_l (by omega)).trans (by unfold laR; rw [u1_eq])
  refine ⟨⟨?_, ?_, ⟨by omega, hr.1.2⟩, ?_, ?_, ?_, ?_, hr.2⟩, ?_⟩
  · refine ⟨?_, ?_, ?_, ?_, ?_, ?_⟩
    · rw [o 7 (by omega) (by omega), r1]; omega
    · rw [o 8 (by omega) (by omega), r2]; omega
    · rw [o 9 (by omega) (by omega), r3]; omega
    · rw [o 10 (by omega) (by omega), r4]; omega
    · rw [o 11 (by omega) (by omega), r5]; omega
    · rw [o 12 (by omega) (by omega), r6]; omega
  · rw [o 4 (by omega) (by omega), e4]; omega
  · rw [o 6 (by omega) (by omega), e6]
    exact ⟨Int.le_refl _, by rw [pow_c]; have := Nat.pow_pos (n := ((dsL tp tl 9 (ftS tp tl (ftS tp tl (ftS tp tl (laS tp tl))), rw0 tp tl)).2 5).toNat) (show 0 < 2 by omega); omega⟩
  · rw [o 0 (by omega) (by omega)]; exact Or.inr e0
  · intro z; rw [o 0 (by omega) (by omega), e0] at z; omega
  · intro _
    rw [o 1 (by omega) (by omega), o 2 (by omega) (by omega), o 3 (by omega) (by omega), q1, q2, q3]
    exact ⟨l1.2, l2.2, l3.2, hr.1.1⟩
  · rw [o 0 (by omega) (by omega)]; exact e0
end T7
