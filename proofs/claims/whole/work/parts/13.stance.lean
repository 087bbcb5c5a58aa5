/-! ===== NightLevel$Stance ===== -/
section T5
variable {G : qGl} {d : Nat} {σ : qM} {k : Nat} {f : Int → Int}
theorem t_X5_side (hk : qSt k) (hS : StR σ k f) : qE G mX5_side d 0 [(0, vr k)] [] σ (ri fun r σ1 => mSide f = r ∧ σ = σ1) := by
  obtain ⟨k0, k1, k2⟩ := qSt_sh k hk
  obtain ⟨s1, s2, s3, s4, s5, s6⟩ := hS
  refine q_aload_n (pc := 0) dX5_side_0 rfl ?_
  refine q_getR (pc := 1) dX5_side_1 fX5_9 (by first | assumption | rfl) (by rfl) ?_
  refine q_iconst (pc := 4) dX5_side_4 ?_
  refine q_iald (pc := 5) dX5_side_5 (by first | assumption | rfl) (by omega) ?_
  refine q_aload_n (pc := 6) dX5_side_6 rfl ?_
  refine q_getR (pc := 7) dX5_side_7 fX5_9 (by first | assumption | rfl) (by rfl) ?_
  refine q_iconst (pc := 10) dX5_side_10 ?_
  refine q_iald (pc := 11) dX5_side_11 (by first | assumption | rfl) (by omega) ?_
  refine q_isub (pc := 12) dX5_side_12 ?_
  refine q_ri (pc := 13) dX5_side_13 rfl ?_
  exact ⟨by unfold mSide; omega, rfl⟩
theorem t_X5_middle (hk : qSt k) (hS : StR σ k f) (hO : mOk f) : qE G mX5_middle d 0 [(0, vr k)] [] σ (ri fun r σ1 => mMid f = r ∧ σ = σ1) := by
  obtain ⟨k0, k1, k2⟩ := qSt_sh k hk
  obtain ⟨s1, s2, s3, s4, s5, s6⟩ := hS
  obtain ⟨o1, o2, o3, o4, o5, o6⟩ := hO
  refine q_aload_n (pc := 0) dX5_middle_0 rfl ?_
  refine q_getR (pc := 1) dX5_middle_1 fX5_9 (by first | assumption | rfl) (by rfl) ?_
  refine q_iconst (pc := 4) dX5_middle_4 ?_
  refine q_iald (pc := 5) dX5_middle_5 (by first | assumption | rfl) (by omega) ?_
  refine q_aload_n (pc := 6) dX5_middle_6 rfl ?_
  refine q_getR (pc := 7) dX5_middle_7 fX5_9 (by first | assumption | rfl) (by rfl) ?_
  refine q_iconst (pc := 10) dX5_middle_10 ?_
  refine q_iald (pc := 11) dX5_middle_11 (by first | assumption | rfl) (by omega) ?_
  refine q_iadd (pc := 12) dX5_middle_12 ?_
  refine q_iconst (pc := 13) dX5_middle_13 ?_
  refine q_idiv (pc := 14) dX5_middle_14 (by omega) ?_
  refine q_ri (pc := 15) dX5_middle_15 rfl ?_
  exact ⟨by unfold mMid; omega, rfl⟩
theorem t_X5_along (hk : qSt k) (hS : StR σ k f) (hO : mOk f) : qE G mX5_along (d + 1) 0 [(0, vr k)] [] σ (ri fun r σ1 => mAlong f = r ∧ σ = σ1) := by
  obtain ⟨k0, k1, k2⟩ := qSt_sh k hk
  have ⟨s1, s2, s3, s4, s5, s6⟩ := hS
  refine q_aload_n (pc := 0) dX5_along_0 rfl ?_
  refine q_getR (pc := 1) dX5_along_1 fX5_9 (by first | assumption | rfl) (by rfl) ?_
  refine q_iconst (pc := 4) dX5_along_4 ?_
  refine q_iald (pc := 5) dX5_along_5 (by first | assumption | rfl) (by omega) ?_
  refine q_aload_n (pc := 6) dX5_along_6 rfl ?_
  refine q_V0i (pc := 7) dX5_along_7 vX5_24 (by first | assumption | rfl) (by rfl) (Nat.le_of_ble_eq_true rfl) (Nat.le_of_ble_eq_true rfl) (t_X5_middle hk hS hO) (fun r1 σ1 hc1 => ?_)
  obtain ⟨rfl, rfl⟩ := hc1
  refine q_isub (pc := 10) dX5_along_10 ?_
  refine q_ri (pc := 11) dX5_along_11 rfl ?_
  exact ⟨by unfold mAlong; omega, rfl⟩
theorem t_X5_tilt {w : Int} (hk : qSt k) (hS : StR σ k f) (hO : mOk f) (hw : w = 0 ∨ w = 1) : qE G mX5_tilt (d + 2) 0 [(0, vr k), (1, vi w)] [] σ (ri fun r σ1 => (if w = 0 then mSide f else mAlong f) = r ∧ σ = σ1) := by
  obtain ⟨k0, k1, k2⟩ := qSt_sh k hk
  refine q_iload_n (pc := 0) dX5_tilt_0 rfl ?_
  refine q_ifne (pc := 1) (tgt := 11) dX5_tilt_1 (by decide) (by omega) (fun h1 => ?_) (fun h1 => ?_)
  · refine q_aload_n (pc := 11) dX5_tilt_11 rfl ?_
    refine q_V0i (pc := 12) dX5_tilt_12 vX5_31 (by first | assumption | rfl) (by rfl) (Nat.le_of_ble_eq_true rfl) (Nat.le_of_ble_eq_true rfl) (t_X5_along hk hS hO) (fun r1 σ1 hc1 => ?_)
    obtain ⟨rfl, rfl⟩ := hc1
    refine q_ri (pc := 15) dX5_tilt_15 rfl ?_
    exact ⟨by simp_all, rfl⟩
  · refine q_aload_n (pc := 4) dX5_tilt_4 rfl ?_
    refine q_V0i (pc := 5) dX5_tilt_5 vX5_28 (by first | assumption | rfl) (by rfl) (Nat.le_of_ble_eq_true rfl) (Nat.le_of_ble_eq_true rfl) (t_X5_side hk hS) (fun r2 σ2 hc2 => ?_)
    obtain ⟨rfl, rfl⟩ := hc2
    refine q_goto (pc := 8) (tgt := 15) dX5_tilt_8 (by decide) ?_
    refine q_ri (pc := 15) dX5_tilt_15 rfl ?_
    exact ⟨by simp_all, rfl⟩
theorem mSide_in {f : Int → Int} (h : mOk f) : -99 ≤ mSide f ∧ mSide f ≤ 99 := by
  obtain ⟨o1, o2, o3, o4, o5, o6⟩ := h
  unfold mSide
  omega
theorem mAlong_in {f : Int → Int} (h : mOk f) : -99 ≤ mAlong f ∧ mAlong f ≤ 99 := by
  obtain ⟨o1, o2, o3, o4, o5, o6⟩ := h
  unfold mAlong mMid
  omega
theorem mOff_abs (a : Int) : (if 0 ≤ a then a else -a) = mOff a := by
  unfold mOff
  split <;> split <;> omega
theorem mAwry_in {f : Int → Int} (h : mOk f) : 0 ≤ mAwry f ∧ mAwry f ≤ 198 := by
  have h1 := mSide_in h
  have h2 := mAlong_in h
  unfold mAwry mOff
  split <;> split <;> omega
theorem t_X5_awry (hk : qSt k) (hS : StR σ k f) (hO : mOk f) : qE G mX5_awry (d + 2) 0 [(0, vr k)] [] σ (ri fun r σ1 => mAwry f = r ∧ σ = σ1) := by
  obtain ⟨k0, k1, k2⟩ := qSt_sh k hk
  have i1 := mSide_in hO
  have i2 := mAlong_in hO
  refine q_aload_n (pc := 0) dX5_awry_0 rfl ?_
  refine q_V0i (pc := 1) dX5_awry_1 vX5_28 (by first | assumption | rfl) (by rfl) (Nat.le_of_ble_eq_true rfl) (Nat.le_of_ble_eq_true rfl) (t_X5_side hk hS) (fun r1 σ1 hc1 => ?_)
  obtain ⟨rfl, rfl⟩ := hc1
  refine q_abs (pc := 4) dX5_awry_4 vX5_34 v_abs1 v_im v_abs2 (by omega) (Nat.le_of_ble_eq_true rfl) (by omega) ?_
  refine q_aload_n (pc := 7) dX5_awry_7 rfl ?_
  refine q_V0i (pc := 8) dX5_awry_8 vX5_31 (by first | assumption | rfl) (by rfl) (Nat.le_of_ble_eq_true rfl) (Nat.le_of_ble_eq_true rfl) (t_X5_along hk hS hO) (fun r2 σ2 hc2 => ?_)
  obtain ⟨rfl, rfl⟩ := hc2
  refine q_abs (pc := 11) dX5_awry_11 vX5_34 v_abs1 v_im v_abs2 (by omega) (Nat.le_of_ble_eq_true rfl) (by omega) ?_
  refine q_iadd (pc := 14) dX5_awry_14 ?_
  refine q_ri (pc := 15) dX5_awry_15 rfl ?_
  exact ⟨by rw [mOff_abs, mOff_abs]; rfl, rfl⟩
theorem t_X5_allHeights (hk : qSt k) (hS : StR σ k f) : qE G mX5_allHeights d 0 [(0, vr k)] [] σ (ri fun r σ1 => f 7 + f 8 + f 9 = r ∧ σ = σ1) := by
  obtain ⟨k0, k1, k2⟩ := qSt_sh k hk
  obtain ⟨s1, s2, s3, s4, s5, s6⟩ := hS
  refine q_aload_n (pc := 0) dX5_allHeights_0 rfl ?_
  refine q_getR (pc := 1) dX5_allHeights_1 fX5_9 (by first | assumption | rfl) (by rfl) ?_
  refine q_iconst (pc := 4) dX5_allHeights_4 ?_
  refine q_iald (pc := 5) dX5_allHeights_5 (by first | assumption | rfl) (by omega) ?_
  refine q_aload_n (pc := 6) dX5_allHeights_6 rfl ?_
  refine q_getR (pc := 7) dX5_allHeights_7 fX5_9 (by first | assumption | rfl) (by rfl) ?_
  refine q_iconst (pc := 10) dX5_allHeights_10 ?_
  refine q_iald (pc := 11) dX5_allHeights_11 (by first | assumption | rfl) (by omega) ?_
  refine q_iadd (pc := 12) dX5_allHeights_12 ?_
  refine q_aload_n (pc := 13) dX5_allHeights_13 rfl ?_
  refine q_getR (pc := 14) dX5_allHeights_14 fX5_9 (by first | assumption | rfl) (by rfl) ?_
  refine q_iconst (pc := 17) dX5_allHeights_17 ?_
  refine q_iald (pc := 18) dX5_allHeights_18 (by first | assumption | rfl) (by omega) ?_
  refine q_iadd (pc := 19) dX5_allHeights_19 ?_
  refine q_ri (pc := 20) dX5_allHeights_20 rfl ?_
  exact ⟨by omega, rfl⟩
theorem mClamp_mm (x : Int) : (if 0 < (if x < 99 then x else 99) then (if x < 99 then x else 99) else 0) = mClamp x := by
  unfold mClamp
  split <;> split <;> (try split) <;> omega
theorem t_X5_shift {i b : Int} (hk : qSt k) (hS : StR σ k f) (hO : mOk f) (h0 : 0 ≤ i) (h2 : i ≤ 2) (hb : -1000000 ≤ b ∧ b ≤ 1000000) : qE G mX5_shift (d + 1) 0 [(0, vr k), (1, vi i), (2, vi b)] [] σ (rv fun σ1 => Fr σ σ1 [k + 1] ∧ StR σ1 k (mLift f i b)) := by
  obtain ⟨k0, k1, k2⟩ := qSt_sh k hk
  have e1 := hS.h h0 h2
  have e2 := hO.h h0 h2
  refine q_aload_n (pc := 0) dX5_shift_0 rfl ?_
  refine q_getR (pc := 1) dX5_shift_1 fX5_9 (by first | assumption | rfl) (by rfl) ?_
  refine q_iload_n (pc := 4) dX5_shift_4 rfl ?_
  refine q_iconst (pc := 5) dX5_shift_5 ?_
  refine q_bipush (pc := 6) dX5_shift_6 (by decide +kernel) ?_
  refine q_aload_n (pc := 8) dX5_shift_8 rfl ?_
  refine q_getR (pc := 9) dX5_shift_9 fX5_9 (by first | assumption | rfl) (by rfl) ?_
  refine q_iload_n (pc := 12) dX5_shift_12 rfl ?_
  refine q_iald (pc := 13) dX5_shift_13 (by first | assumption | rfl) (by omega) ?_
  refine q_iload_n (pc := 14) dX5_shift_14 rfl ?_
  refine q_iadd (pc := 15) dX5_shift_15 ?_
  refine q_min (pc := 16) dX5_shift_16 vX5_40 v_min1 v_im v_min2 (by omega) (by omega) (Nat.le_of_ble_eq_true rfl) (by omega) ?_
  refine q_max (pc := 19) dX5_shift_19 vX5_44 v_max1 v_im v_max2 (by omega) (by omega) (Nat.le_of_ble_eq_true rfl) (by omega) ?_
  refine q_iast (pc := 22) dX5_shift_22 (by first | assumption | rfl) (by omega) ?_
  refine q_rv (pc := 23) dX5_shift_23 rfl ?_
  exact ⟨Fr.up (by simp), hS.lift h0 h2 (by rw [mClamp_mm, e1])⟩
end T5
