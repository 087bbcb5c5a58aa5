/-! ===== the class: site, the whole ===== -/
theorem av_site {A : qA} (h : AV A) : AV (s_site A).2 := by
  obtain ⟨v1, v2, v3, v4, v5, ⟨v6, v6'⟩, v7⟩ := h
  have hK : TK A.2.2.2.2.2.1.1 A.2.2.2.2.2.1.2 := ⟨v6, v6'⟩
  have v6z : (0 ≤ ((0 : Int)) ∧ (0 : Int) ≤ 120) ∧ ∀ j, 0 ≤ j → j < (0 : Int) → 0 ≤ A.2.2.2.2.2.1.1 j ∧ A.2.2.2.2.2.1.1 j ≤ 255 := ⟨by omega, fun j a b => by omega⟩
  unfold s_site
  split
  · rename_i c
    exact ⟨(paS_row c).1, ⟨Nat.zero_le _, fun g hg => absurd hg (by simp), fun _ => rfl⟩, v3, v4, v5, v6z, v7⟩
  · have hi := (paS_in hK 9 (ftS A.2.2.2.2.2.1.1 A.2.2.2.2.2.1.2 (ftS A.2.2.2.2.2.1.1 A.2.2.2.2.2.1.2 (ftS A.2.2.2.2.2.1.1 A.2.2.2.2.2.1.2 (laS A.2.2.2.2.2.1.1 A.2.2.2.2.2.1.2))), rw0 A.2.2.2.2.2.1.1 A.2.2.2.2.2.1.2) (ftS_in (ftS_in (ftS_in (ntS_in (ntS_in (ntS_in (tkS_in (s00 hK))))))))).1
    exact ⟨v1, v2, v3, hi, v5, v6z, v7⟩
section T7
variable {G : qGl} {d : Nat} {σ : qM} {A : qA}
theorem t_X6_clear : qE G mX6_clear d 0 [(0, vr 13)] [] σ (rv fun σ1 => up σ 13 1 0 = σ1) := by
  refine q_aload_n (pc := 0) dX6_clear_0 rfl ?_
  refine q_iconst (pc := 1) dX6_clear_1 ?_
  refine q_pI (pc := 2) 1 dX6_clear_2 wX6_15 rfl rfl rfl ?_
  refine q_rv (pc := 5) dX6_clear_5 rfl ?_
  rfl
theorem CR.tape {σ1 : qM} {lf : Int} (h : CR σ A) (hF : Fr σ σ1 [0, 13, 22, 23, 24, 25, 27, 28]) (h0 : ∀ i, i ≠ 8 → σ1 0 i = σ 0 i) (h8 : σ1 0 8 = lf) (h1 : σ1 13 1 = 0) : CR σ1 (A.1, A.2.1, A.2.2.1, lf, A.2.2.2.2.1, (A.2.2.2.2.2.1.1, 0), A.2.2.2.2.2.2) := by
  have n : ∀ j : Nat, j ≠ 0 → j ≠ 13 → ¬ (22 ≤ j ∧ j ≤ 28) → j ∉ [0, 13, 22, 23, 24, 25, 27, 28] := fun j a b c => by simp; omega
  have e : ∀ j : Nat, j ≠ 0 → j ≠ 13 → ¬ (22 ≤ j ∧ j ≤ 28) → σ1 j = σ j := fun j a b c => hF j (n j a b c)
  obtain ⟨c1, c2, c3, c4, c5, c6, c7, c8⟩ := h
  refine ⟨c1.fr hF (fun j a b => n j (by omega) (by omega) (by omega)), c2.fr hF (n _ (by omega) (by omega) (by omega)) (n _ (by omega) (by omega) (by omega)), ?_, h8, c5.fr hF (fun j a b => n j (by omega) (by omega) (by omega)) , ⟨h1, fun j a b => by have b : j < 0 := b; omega⟩, ⟨⟨?_, fun q => (c7.1.2 q).fr hF (fun j a b => n j (by omega) (by omega) (by omega))⟩, ?_, fun q => (c7.2.2 q).fr hF (fun j a b => n j (by omega) (by omega) (by omega))⟩, ?_⟩
  · rw [h0 9 (by omega)]; exact c3
  · rw [e 30 (by omega) (by omega) (by omega)]; exact c7.1.1
  · rw [e 37 (by omega) (by omega) (by omega)]; exact c7.2.1
  · rw [e 80 (by omega) (by omega) (by omega), e 81 (by omega) (by omega) (by omega)]; exact c8
theorem x_site (hC : CR σ A) (hV : AV A) : qE G mX7_site (d + 6) 0 [(0, vr 0)] [] σ (ri (pC σ (s_site A))) := by
  have t6 := hC.2.2.2.2.2.1
  have hK : TK A.2.2.2.2.2.1.1 A.2.2.2.2.2.1.2 := hV.2.2.2.2.2.1
  have hF0 : ∀ τ, Fr σ τ [13, 22, 23, 24, 25, 27, 28] → Fr σ (up τ 13 1 0) [0, 13, 22, 23, 24, 25, 27, 28] := fun τ h => (h.wk (by simp)).tt (Fr.up (by simp))
  generalize hP : paS A.2.2.2.2.2.1.1 A.2.2.2.2.2.1.2 = P
  refine q_aload_n (pc := 0) dX7_site_0 rfl ?_
  refine q_getR (pc := 1) dX7_site_1 fX7_19 rfl rfl ?_
  refine q_aload_n (pc := 4) dX7_site_4 rfl ?_
  refine q_getR (pc := 5) dX7_site_5 fX7_30 rfl rfl ?_
  refine q_V1i (pc := 8) dX7_site_8 vX7_106 rfl rfl (Nat.le_of_ble_eq_true rfl) (Nat.le_of_ble_eq_true rfl) (x_readInto t6.1 t6.2 hK) (fun r1 σ1 hc1 => ?_)
  obtain ⟨rfl, hF1, hT1, hs1⟩ := hc1
  refine q_istore_n (pc := 11) dX7_site_11 (Nat.le_of_ble_eq_true rfl) ?_
  refine q_aload_n (pc := 12) dX7_site_12 rfl ?_
  refine q_getR (pc := 13) dX7_site_13 fX7_19 rfl rfl ?_
  refine q_V0v (pc := 16) dX7_site_16 vX7_110 rfl rfl (Nat.le_of_ble_eq_true rfl) (Nat.le_of_ble_eq_true rfl) (t_X6_clear) (fun σ2 hc2 => ?_)
  obtain rfl := hc2
  refine q_iload_n (pc := 19) dX7_site_19 rfl ?_
  refine q_ifneb (pc := 20) (tgt := 45) dX7_site_20 (by decide) (fun h20 => ?_) (fun h20 => ?_)
  · rw [hP] at hT1 hs1 h20
    have hrow := paS_row (tp := A.2.2.2.2.2.1.1) (tl := A.2.2.2.2.2.1.2)
    rw [hP] at hrow
    refine q_aload_n (pc := 45) dX7_site_45 rfl ?_
    refine q_getR (pc := 46) dX7_site_46 fX7_26 rfl rfl ?_
    refine q_aload_n (pc := 49) dX7_site_49 rfl ?_
    refine q_getR (pc := 50) dX7_site_50 fX7_30 rfl rfl ?_
    refine q_V1v (pc := 53) dX7_site_53 vX7_124 rfl rfl (Nat.le_of_ble_eq_true rfl) (Nat.le_of_ble_eq_true rfl) (t_X4_copyFrom_15_22 ((hs1 (by assumption)).fr (S := [13]) (Fr.up (by simp)) (fun j a b => by simp; omega)) (hrow (by assumption)).1.f0 (hrow (by assumption)).1.de.2) (fun σ3 hc3 => ?_)
    obtain ⟨hF3, hs3⟩ := hc3
    refine q_aload_n (pc := 56) dX7_site_56 rfl ?_
    refine q_getR (pc := 57) dX7_site_57 fX7_40 rfl rfl ?_
    refine q_V0v (pc := 60) dX7_site_60 vX7_128 rfl rfl (Nat.le_of_ble_eq_true rfl) (Nat.le_of_ble_eq_true rfl) (t_X0_forget) (fun σ4 hc4 => ?_)
    obtain rfl := hc4
    refine q_aload_n (pc := 63) dX7_site_63 rfl ?_
    refine q_getR (pc := 64) dX7_site_64 fX7_26 rfl rfl ?_
    refine q_gI (pc := 67) 5 dX7_site_67 fX7_131 rfl rfl rfl ?_
    refine q_ri (pc := 70) dX7_site_70 rfl ?_
    have hz : P.1.1 = 0 := by assumption
    have hs : s_site A = (P.2 5, P.2, [], A.2.2.1, A.2.2.2.1, A.2.2.2.2.1, (A.2.2.2.2.2.1.1, 0), A.2.2.2.2.2.2) := by
      unfold s_site
      rw [hP, if_pos hz]
    rw [hs]
    have hCx := hC.tape (lf := A.2.2.2.1) (hF0 _ hF1) (fun i _ => by rw [up_ne (by omega), hF1 0 (by simp)]) (by rw [up_ne (by omega), hF1 0 (by simp)]; exact hC.2.2.2.1) (by rw [up_same, if_pos rfl])
    have hFy : Fr (up σ1 13 1 0) (up σ3 44 2 0) [15, 16, 17, 18, 20, 21, 44] := Fr.tr hF3 (Fr.up (S := [44]) (by simp)) (fun j q => by simp at q ⊢; omega)
    have hsy := hs3.fr (S := [44]) (Fr.up (σ := σ3) (k := 44) (i := 2) (v := 0) (by simp)) (fun j a b => by simp; omega)
    refine pC.go (fun j hj => by rw [hFy.c (by decide) j hj, (hF0 _ hF1).c (by decide) j hj]) (CR.site (A := (A.1, A.2.1, A.2.2.1, A.2.2.2.1, A.2.2.2.2.1, (A.2.2.2.2.2.1.1, 0), A.2.2.2.2.2.2)) hCx hFy (si_in (by decide)) hsy ?_) ?_
    · have h2 := hCx.2.1
      refine ⟨?_, by rw [up_same, if_pos rfl]; rfl, Nat.zero_le _, fun i f hi => absurd hi (by simp)⟩
      rw [up_same, if_neg (by omega), hF3 44 (by simp)]
      exact h2.1
    · exact hsy.1.2.2.1.symm
  · rw [hP] at hT1 hs1 h20
    have hrow := paS_row (tp := A.2.2.2.2.2.1.1) (tl := A.2.2.2.2.2.1.2)
    rw [hP] at hrow
    refine q_aload_n (pc := 23) dX7_site_23 rfl ?_
    refine q_aload_n (pc := 24) dX7_site_24 rfl ?_
    refine q_getR (pc := 25) dX7_site_25 fX7_19 rfl rfl ?_
    refine q_gI (pc := 28) 3 dX7_site_28 fX7_113 rfl rfl rfl ?_
    refine q_pI (pc := 31) 8 dX7_site_31 wX7_117 rfl rfl rfl ?_
    refine q_ldc (pc := 34) (n := -1000100) kX7_120 dX7_site_34 ?_
    refine q_aload_n (pc := 36) dX7_site_36 rfl ?_
    refine q_getR (pc := 37) dX7_site_37 fX7_19 rfl rfl ?_
    refine q_gI (pc := 40) 2 dX7_site_40 fX7_121 rfl rfl rfl ?_
    refine q_isub (pc := 43) dX7_site_43 ?_
    refine q_ri (pc := 44) dX7_site_44 rfl ?_
    have hs : s_site A = (-1000100 - P.1.2, A.1, A.2.1, A.2.2.1, P.1.1, A.2.2.2.2.1, (A.2.2.2.2.2.1.1, 0), A.2.2.2.2.2.2) := by
      unfold s_site
      rw [hP, if_neg (by assumption)]
    rw [hs]
    have u13 : ∀ i, i ≠ 1 → up σ1 13 1 0 13 i = σ1 13 i := fun i hi => by rw [up_same, if_neg hi]
    refine pC.go (fun j hj => by rw [up_ne (by omega), (hF0 _ hF1).c (by decide) j hj]) (hC.tape ((hF0 _ hF1).tt (Fr.up (by simp))) (fun i hi => by rw [up_same, if_neg hi, up_ne (by omega), hF1 0 (by simp)]) ?_ (by rw [up_ne (by omega), up_same, if_pos rfl])) ?_
    · rw [up_same, if_pos rfl, u13 3 (by omega)]; exact hT1.2.2.1
    · rw [up_ne (by omega), u13 2 (by omega), hT1.2.1]
end T7
