/-! ===== NightLevel$Stance, what changes ===== -/
theorem mul_r {s t : Int} (hs : 0 ≤ s ∧ s ≤ 9) (ht : 0 ≤ t ∧ t ≤ 10000) : -1000000 ≤ -s * t ∧ -s * t ≤ 1000000 := by
  have h1 : s * t ≤ 9 * t := Int.mul_le_mul_of_nonneg_right hs.2 ht.1
  have h2 : 0 ≤ s * t := Int.mul_nonneg hs.1 ht.1
  rw [Int.neg_mul]
  omega
def c9 (x : Int) : Int := if x < 0 then 0 else if 9 < x then 9 else x
theorem c9_mm (x : Int) : (if 0 < (if x < 9 then x else 9) then (if x < 9 then x else 9) else 0) = c9 x := by
  unfold c9
  split <;> split <;> (try split) <;> omega
theorem c9_in (x : Int) : 0 ≤ c9 x ∧ c9 x ≤ 9 := by
  unfold c9
  split
  · omega
  · split <;> omega
/-- rain t times -/
def mSink (f : Int → Int) (t : Int) : Int → Int := mLift (mLift (mLift f 0 (-(f 10) * t)) 1 (-(f 11) * t)) 2 (-(f 12) * t)
theorem mSink_ok {f : Int → Int} {t : Int} (h : mOk f) : mOk (mSink f t) := mLift_ok (mLift_ok (mLift_ok h (by omega) (by omega)) (by omega) (by omega)) (by omega) (by omega)
theorem qSt_apart : ∀ k ∈ [19, 26, 34, 41, 47, 52, 56, 59, 62, 65, 68, 71, 74, 77], ∀ k2 ∈ [19, 26, 34, 41, 47, 52, 56, 59, 62, 65, 68, 71, 74, 77], k2 + 2 ≠ k + 1 := by decide +kernel
section T5
variable {G : qGl} {d : Nat} {σ : qM} {k : Nat} {f : Int → Int}
theorem t_X5_shift' {i b : Int} (hk : qSt k) (hS : StR σ k f) (hO : mOk f) (h0 : 0 ≤ i) (h2 : i ≤ 2) (hb : -1000000 ≤ b ∧ b ≤ 1000000) : qE G mX5_shift (d + 1) 0 [(0, vr k), (1, vi i), (2, vi b)] [] σ (rv fun σ1 => Fr σ σ1 [k + 1] ∧ StR σ1 k (mLift f i b) ∧ mOk (mLift f i b)) :=
  q_mono (fun v σ' h => ⟨h.1, h.2.1, h.2.2, mLift_ok hO h0 h2⟩) (t_X5_shift hk hS hO h0 h2 hb)
theorem t_X5_soften {i b : Int} (hk : qSt k) (hS : StR σ k f) (hO : mOk f) (h0 : 0 ≤ i) (h2 : i ≤ 2) (hb : -1000000 ≤ b ∧ b ≤ 1000000) : qE G mX5_soften (d + 1) 0 [(0, vr k), (1, vi i), (2, vi b)] [] σ (rv fun σ1 => Fr σ σ1 [k + 2] ∧ StR σ1 k (u1 f (10 + i) (c9 (f (10 + i) + b))) ∧ mOk (u1 f (10 + i) (c9 (f (10 + i) + b)))) := by
  obtain ⟨k0, k1, k2⟩ := qSt_sh k hk
  have e1 := hS.s h0 h2
  have e2 := hO.s h0 h2
  refine q_aload_n (pc := 0) dX5_soften_0 rfl ?_
  refine q_getR (pc := 1) dX5_soften_1 fX5_15 (by first | assumption | rfl) (by rfl) ?_
  refine q_iload_n (pc := 4) dX5_soften_4 rfl ?_
  refine q_iconst (pc := 5) dX5_soften_5 ?_
  refine q_bipush (pc := 6) dX5_soften_6 (by decide +kernel) ?_
  refine q_aload_n (pc := 8) dX5_soften_8 rfl ?_
  refine q_getR (pc := 9) dX5_soften_9 fX5_15 (by first | assumption | rfl) (by rfl) ?_
  refine q_iload_n (pc := 12) dX5_soften_12 rfl ?_
  refine q_iald (pc := 13) dX5_soften_13 (by first | assumption | rfl) (by omega) ?_
  refine q_iload_n (pc := 14) dX5_soften_14 rfl ?_
  refine q_iadd (pc := 15) dX5_soften_15 ?_
  refine q_min (pc := 16) dX5_soften_16 vX5_40 v_min1 v_im v_min2 (by omega) (by omega) (Nat.le_of_ble_eq_true rfl) (by omega) ?_
  refine q_max (pc := 19) dX5_soften_19 vX5_44 v_max1 v_im v_max2 (by omega) (by omega) (Nat.le_of_ble_eq_true rfl) (by omega) ?_
  refine q_iast (pc := 22) dX5_soften_22 (by first | assumption | rfl) (by omega) ?_
  refine q_rv (pc := 23) dX5_soften_23 rfl ?_
  refine ⟨Fr.up (by simp), ?_, u1_ok hO (fun q => by omega) (fun _ => c9_in _)⟩
  rw [c9_mm, e1]
  exact hS.soft h0 h2
theorem t_X5_sink_it {i t : Int} {Q : Option qV → qM → Prop} (hk : qSt k) (hS : StR σ k f) (hO : mOk f) (h0 : 0 ≤ i) (h2 : i ≤ 2) (ht : 0 ≤ t ∧ t ≤ 10000)
    (hn : ∀ σ1, Fr σ σ1 [k + 1] → StR σ1 k (mLift f i (-(f (10 + i)) * t)) → mOk (mLift f i (-(f (10 + i)) * t)) → qE G mX5_sink (d + 2) 2 [(2, vi (i + 1)), (0, vr k), (1, vi t)] [] σ1 Q) : qE G mX5_sink (d + 2) 2 [(2, vi i), (0, vr k), (1, vi t)] [] σ Q := by
  obtain ⟨k0, k1, k2⟩ := qSt_sh k hk
  have e1 := hS.s h0 h2
  have e2 := hO.s h0 h2
  refine q_iload_n (pc := 2) dX5_sink_2 rfl ?_
  refine q_iconst (pc := 3) dX5_sink_3 ?_
  refine q_icmpge (pc := 4) (tgt := 27) dX5_sink_4 (by decide) (by omega) (by omega) (fun h => absurd h (by omega)) (fun h4 => ?_)
  refine q_aload_n (pc := 7) dX5_sink_7 rfl ?_
  refine q_iload_n (pc := 8) dX5_sink_8 rfl ?_
  refine q_aload_n (pc := 9) dX5_sink_9 rfl ?_
  refine q_getR (pc := 10) dX5_sink_10 fX5_15 (by first | assumption | rfl) (by rfl) ?_
  refine q_iload_n (pc := 13) dX5_sink_13 rfl ?_
  refine q_iald (pc := 14) dX5_sink_14 (by first | assumption | rfl) (by omega) ?_
  refine q_ineg (pc := 15) dX5_sink_15 ?_
  refine q_iload_n (pc := 16) dX5_sink_16 rfl ?_
  refine q_imul (pc := 17) dX5_sink_17 ?_
  refine q_V2v (pc := 18) dX5_sink_18 vX5_47 (by first | assumption | rfl) (by rfl) (Nat.le_of_ble_eq_true rfl) (Nat.le_of_ble_eq_true rfl) (t_X5_shift' hk hS hO (by omega) (by omega) (mul_r (by omega) ht)) (fun σ1 hc1 => ?_)
  obtain ⟨hF1, hS, hO⟩ := hc1
  rw [e1] at hS hO
  refine q_iinc (pc := 21) dX5_sink_21 rfl (Nat.le_of_ble_eq_true rfl) ?_
  refine q_goto (pc := 24) (tgt := 2) dX5_sink_24 (by decide) ?_
  exact hn _ hF1 hS hO
theorem t_X5_sink {t : Int} (hk : qSt k) (hS : StR σ k f) (hO : mOk f) (ht : 0 ≤ t ∧ t ≤ 10000) : qE G mX5_sink (d + 2) 0 [(0, vr k), (1, vi t)] [] σ (rv fun σ1 => Fr σ σ1 [k + 1] ∧ StR σ1 k (mSink f t) ∧ mOk (mSink f t)) := by
  refine q_iconst (pc := 0) dX5_sink_0 ?_
  refine q_istore_n (pc := 1) dX5_sink_1 (Nat.le_of_ble_eq_true rfl) ?_
  refine t_X5_sink_it (i := 0) hk hS hO (by omega) (by omega) ht (fun σ1 hF1 hS hO => ?_)
  refine t_X5_sink_it (i := 0 + 1) hk hS hO (by omega) (by omega) ht (fun σ2 hF2 hS hO => ?_)
  refine t_X5_sink_it (i := 0 + 1 + 1) hk hS hO (by omega) (by omega) ht (fun σ3 hF3 hS hO => ?_)
  refine q_iload_n (pc := 2) dX5_sink_2 rfl ?_
  refine q_iconst (pc := 3) dX5_sink_3 ?_
  refine q_icmpge (pc := 4) (tgt := 27) dX5_sink_4 (by decide) (by omega) (by omega) (fun h4 => ?_) (fun h => absurd h (by omega))
  refine q_rv (pc := 27) dX5_sink_27 rfl ?_
  exact ⟨(hF1.tt hF2).tt hF3, hS, hO⟩
theorem t_X5_copyFrom {k' : Nat} (hk : qSt k) (hk' : qSt k') (hS : StR σ k' f) : qE G mX5_copyFrom (d + 1) 0 [(0, vr k), (1, vr k')] [] σ (rv fun σ1 => Fr σ σ1 [k + 1, k + 2] ∧ StR σ1 k f) := by
  obtain ⟨k0, k1, k2⟩ := qSt_sh k hk
  obtain ⟨k0', k1', k2'⟩ := qSt_sh k' hk'
  have ha := qSt_apart k hk k' hk'
  obtain ⟨s1, s2, s3, s4, s5, s6⟩ := hS
  refine q_aload_n (pc := 0) dX5_copyFrom_0 rfl ?_
  refine q_getR (pc := 1) dX5_copyFrom_1 fX5_9 (by first | assumption | rfl) (by rfl) ?_
  refine q_iconst (pc := 4) dX5_copyFrom_4 ?_
  refine q_aload_n (pc := 5) dX5_copyFrom_5 rfl ?_
  refine q_getR (pc := 6) dX5_copyFrom_6 fX5_9 (by first | assumption | rfl) (by rfl) ?_
  refine q_iconst (pc := 9) dX5_copyFrom_9 ?_
  refine q_iconst (pc := 10) dX5_copyFrom_10 ?_
  refine q_copy (pc := 11) dX5_copyFrom_11 vX5_18 v_cp1 v_cp2 v_is (by first | assumption | rfl) (by first | assumption | rfl) (by omega) (by omega) (by omega) (by omega) (by omega) (Nat.le_of_ble_eq_true rfl) (by omega) ?_
  refine q_aload_n (pc := 14) dX5_copyFrom_14 rfl ?_
  refine q_getR (pc := 15) dX5_copyFrom_15 fX5_15 (by first | assumption | rfl) (by rfl) ?_
  refine q_iconst (pc := 18) dX5_copyFrom_18 ?_
  refine q_aload_n (pc := 19) dX5_copyFrom_19 rfl ?_
  refine q_getR (pc := 20) dX5_copyFrom_20 fX5_15 (by first | assumption | rfl) (by rfl) ?_
  refine q_iconst (pc := 23) dX5_copyFrom_23 ?_
  refine q_iconst (pc := 24) dX5_copyFrom_24 ?_
  refine q_copy (pc := 25) dX5_copyFrom_25 vX5_18 v_cp1 v_cp2 v_is (by first | assumption | rfl) (by first | assumption | rfl) (by omega) (by omega) (by omega) (by omega) (by omega) (Nat.le_of_ble_eq_true rfl) (by omega) ?_
  refine q_rv (pc := 28) dX5_copyFrom_28 rfl ?_
  refine ⟨Fr.tt (Fr.put (by simp)) (Fr.put (by simp)), ?_⟩
  unfold StR
  rw [put_ne (show k + 1 ≠ k + 2 by omega), put_same, put_same, put_ne ha]
  simp [qcpy, s1, s2, s3, s4, s5, s6]
theorem t_X5_wind {b : Int} (hk : qSt k) (hS : StR σ k f) (hO : mOk f) (hb : -1000000 ≤ b ∧ b ≤ 1000000) : qE G mX5_wind (d + 2) 0 [(0, vr k), (1, vi b)] [] σ (rv fun σ1 => Fr σ σ1 [k + 1] ∧ StR σ1 k (mWind f b) ∧ mOk (mWind f b)) := by
  obtain ⟨k0, k1, k2⟩ := qSt_sh k hk
  have i2 := mAlong_in hO
  refine q_aload_n (pc := 0) dX5_wind_0 rfl ?_
  refine q_iconst (pc := 1) dX5_wind_1 ?_
  refine q_aload_n (pc := 2) dX5_wind_2 rfl ?_
  refine q_V0i (pc := 3) dX5_wind_3 vX5_31 (by first | assumption | rfl) (by rfl) (Nat.le_of_ble_eq_true rfl) (Nat.le_of_ble_eq_true rfl) (t_X5_along hk hS hO) (fun r1 σ1 hc1 => ?_)
  obtain ⟨rfl, rfl⟩ := hc1
  refine q_ifge (pc := 6) (tgt := 13) dX5_wind_6 (by decide) (by omega) (fun h6 => ?_) (fun h6 => ?_)
  · have h6 : ¬ mAlong f < 0 := by omega
    refine q_iload_n (pc := 13) dX5_wind_13 rfl ?_
    refine q_ineg (pc := 14) dX5_wind_14 ?_
    refine q_V2v (pc := 15) dX5_wind_15 vX5_47 (by first | assumption | rfl) (by rfl) (Nat.le_of_ble_eq_true rfl) (Nat.le_of_ble_eq_true rfl) (t_X5_shift' hk hS hO (by omega) (by omega) (by omega)) (fun σ2 hc2 => ?_)
    obtain ⟨hF2, hS, hO⟩ := hc2
    refine q_rv (pc := 18) dX5_wind_18 rfl ?_
    unfold mWind
    simp only [h6, if_true, if_false]
    first | exact ⟨hF2, hS, hO⟩ | exact ⟨hF3, hS, hO⟩
  · try rw [Int.not_le] at h6
    refine q_iload_n (pc := 9) dX5_wind_9 rfl ?_
    refine q_goto (pc := 10) (tgt := 15) dX5_wind_10 (by decide) ?_
    refine q_V2v (pc := 15) dX5_wind_15 vX5_47 (by first | assumption | rfl) (by rfl) (Nat.le_of_ble_eq_true rfl) (Nat.le_of_ble_eq_true rfl) (t_X5_shift' hk hS hO (by omega) (by omega) (by omega)) (fun σ3 hc3 => ?_)
    obtain ⟨hF3, hS, hO⟩ := hc3
    refine q_rv (pc := 18) dX5_wind_18 rfl ?_
    unfold mWind
    simp only [h6, if_true, if_false]
    first | exact ⟨hF2, hS, hO⟩ | exact ⟨hF3, hS, hO⟩
theorem t_X5_changeWheels (hk : qSt k) (hS : StR σ k f) (hO : mOk f) : qE G mX5_changeWheels d 0 [(0, vr k)] [] σ (rv fun σ1 => Fr σ σ1 [k + 1, k + 2] ∧ StR σ1 k (mSwap f) ∧ mOk (mSwap f)) := by
  obtain ⟨k0, k1, k2⟩ := qSt_sh k hk
  obtain ⟨s1, s2, s3, s4, s5, s6⟩ := hS
  refine q_aload_n (pc := 0) dX5_changeWheels_0 rfl ?_
  refine q_getR (pc := 1) dX5_changeWheels_1 fX5_9 (by first | assumption | rfl) (by rfl) ?_
  refine q_iconst (pc := 4) dX5_changeWheels_4 ?_
  refine q_iald (pc := 5) dX5_changeWheels_5 (by first | assumption | rfl) (by omega) ?_
  refine q_istore_n (pc := 6) dX5_changeWheels_6 (Nat.le_of_ble_eq_true rfl) ?_
  refine q_aload_n (pc := 7) dX5_changeWheels_7 rfl ?_
  refine q_getR (pc := 8) dX5_changeWheels_8 fX5_15 (by first | assumption | rfl) (by rfl) ?_
  refine q_iconst (pc := 11) dX5_changeWheels_11 ?_
  refine q_iald (pc := 12) dX5_changeWheels_12 (by first | assumption | rfl) (by omega) ?_
  refine q_istore_n (pc := 13) dX5_changeWheels_13 (Nat.le_of_ble_eq_true rfl) ?_
  refine q_aload_n (pc := 14) dX5_changeWheels_14 rfl ?_
  refine q_getR (pc := 15) dX5_changeWheels_15 fX5_9 (by first | assumption | rfl) (by rfl) ?_
  refine q_iconst (pc := 18) dX5_changeWheels_18 ?_
  refine q_aload_n (pc := 19) dX5_changeWheels_19 rfl ?_
  refine q_getR (pc := 20) dX5_changeWheels_20 fX5_9 (by first | assumption | rfl) (by rfl) ?_
  refine q_iconst (pc := 23) dX5_changeWheels_23 ?_
  refine q_iald (pc := 24) dX5_changeWheels_24 (by first | assumption | rfl) (by omega) ?_
  refine q_iast (pc := 25) dX5_changeWheels_25 (by first | assumption | rfl) (by omega) ?_
  refine q_aload_n (pc := 26) dX5_changeWheels_26 rfl ?_
  refine q_getR (pc := 27) dX5_changeWheels_27 fX5_15 (by first | assumption | rfl) (by rfl) ?_
  refine q_iconst (pc := 30) dX5_changeWheels_30 ?_
  refine q_aload_n (pc := 31) dX5_changeWheels_31 rfl ?_
  refine q_getR (pc := 32) dX5_changeWheels_32 fX5_15 (by first | assumption | rfl) (by rfl) ?_
  refine q_iconst (pc := 35) dX5_changeWheels_35 ?_
  refine q_iald (pc := 36) dX5_changeWheels_36 (by first | assumption | rfl) (by omega) ?_
  refine q_iast (pc := 37) dX5_changeWheels_37 (by first | assumption | rfl) (by omega) ?_
  refine q_aload_n (pc := 38) dX5_changeWheels_38 rfl ?_
  refine q_getR (pc := 39) dX5_changeWheels_39 fX5_9 (by first | assumption | rfl) (by rfl) ?_
  refine q_iconst (pc := 42) dX5_changeWheels_42 ?_
  refine q_iload_n (pc := 43) dX5_changeWheels_43 rfl ?_
  refine q_iast (pc := 44) dX5_changeWheels_44 (by first | assumption | rfl) (by omega) ?_
  refine q_aload_n (pc := 45) dX5_changeWheels_45 rfl ?_
  refine q_getR (pc := 46) dX5_changeWheels_46 fX5_15 (by first | assumption | rfl) (by rfl) ?_
  refine q_iconst (pc := 49) dX5_changeWheels_49 ?_
  refine q_iload_n (pc := 50) dX5_changeWheels_50 rfl ?_
  refine q_iast (pc := 51) dX5_changeWheels_51 (by first | assumption | rfl) (by omega) ?_
  refine q_rv (pc := 52) dX5_changeWheels_52 rfl ?_
  refine ⟨Fr.tt (Fr.tt (Fr.tt (Fr.up (by simp)) (Fr.up (by simp))) (Fr.up (by simp))) (Fr.up (by simp)), ?_, mSwap_ok hO⟩
  simp [StR, up, mSwap, s1, s2, s3, s4, s5, s6]
theorem t_X5_enact {kd i a : Int} (hk : qSt k) (hS : StR σ k f) (hO : mOk f) (h0 : 0 ≤ i) (h2 : i ≤ 2) (hkd : 1 ≤ kd ∧ kd ≤ 5) (ha : 1 ≤ a ∧ a ≤ 20) : qE G mX5_enact (d + 3) 0 [(0, vr k), (1, vi kd), (2, vi i), (3, vi a)] [] σ (rv fun σ1 => Fr σ σ1 [k + 1, k + 2] ∧ StR σ1 k (mAct f kd i a) ∧ mOk (mAct f kd i a)) := by
  obtain ⟨k0, k1, k2⟩ := qSt_sh k hk
  have e2 := hO.s h0 h2
  have sh1 : ∀ {σ1 : qM}, Fr σ σ1 [k + 1] → Fr σ σ1 [k + 1, k + 2] := fun h => h.wk (by simp)
  refine q_iload_n (pc := 0) dX5_enact_0 rfl ?_
  rcases (show kd = 1 ∨ kd = 2 ∨ kd = 3 ∨ kd = 4 ∨ kd = 5 ∨ (kd < 1 ∨ 5 < kd) by omega) with hs1 | hs1 | hs1 | hs1 | hs1 | hs1
  · refine q_tsIn (pc := 1) (off := 35) (tgt := 36) dX5_enact_1 (by omega) (by omega) (by omega) (by rw [hs1]; rfl) (by decide) ?_
    refine q_aload_n (pc := 36) dX5_enact_36 rfl ?_
    refine q_iload_n (pc := 37) dX5_enact_37 rfl ?_
    refine q_iload_n (pc := 38) dX5_enact_38 rfl ?_
    refine q_V2v (pc := 39) dX5_enact_39 vX5_47 (by first | assumption | rfl) (by rfl) (Nat.le_of_ble_eq_true rfl) (Nat.le_of_ble_eq_true rfl) (t_X5_shift' hk hS hO (by omega) (by omega) (by omega)) (fun σ1 hc1 => ?_)
    obtain ⟨hF1, hS, hO⟩ := hc1
    refine q_goto (pc := 42) (tgt := 95) dX5_enact_42 (by decide) ?_
    refine q_rv (pc := 95) dX5_enact_95 rfl ?_
    rw [hs1]
    first
    | exact ⟨sh1 hF1, hS, hO⟩
    | exact ⟨sh1 hF2, hS, hO⟩
    | exact ⟨sh1 hF5, hS, hO⟩
    | exact ⟨hF6.tt (hF7.wk (by simp)), hS, hO⟩
    | (refine ⟨(sh1 hF3).tt (hF4.wk (by simp)), ?_, ?_⟩
       · show StR _ k (mSoft (mLift f i a) i)
         unfold mSoft
         have e3 : mLift f i a (10 + i) = f (10 + i) := by unfold mLift u1; rw [if_neg (by omega)]
         rw [e3] at hS ⊢
         have e4 : c9 (f (10 + i) + 1) = if f (10 + i) < 9 then f (10 + i) + 1 else f (10 + i) := by unfold c9; split <;> split <;> (try split) <;> omega
         rw [e4] at hS
         exact hS
       · show mOk (mSoft (mLift f i a) i)
         exact mSoft_ok (mLift_ok (by assumption) h0 h2) h0 h2)
  · refine q_tsIn (pc := 1) (off := 44) (tgt := 45) dX5_enact_1 (by omega) (by omega) (by omega) (by rw [hs1]; rfl) (by decide) ?_
    refine q_aload_n (pc := 45) dX5_enact_45 rfl ?_
    refine q_iload_n (pc := 46) dX5_enact_46 rfl ?_
    refine q_iload_n (pc := 47) dX5_enact_47 rfl ?_
    refine q_iconst (pc := 48) dX5_enact_48 ?_
    refine q_idiv (pc := 49) dX5_enact_49 (by omega) ?_
    refine q_iconst (pc := 50) dX5_enact_50 ?_
    refine q_iadd (pc := 51) dX5_enact_51 ?_
    refine q_V2v (pc := 52) dX5_enact_52 vX5_47 (by first | assumption | rfl) (by rfl) (Nat.le_of_ble_eq_true rfl) (Nat.le_of_ble_eq_true rfl) (t_X5_shift' hk hS hO (by omega) (by omega) (by omega)) (fun σ2 hc2 => ?_)
    obtain ⟨hF2, hS, hO⟩ := hc2
    refine q_goto (pc := 55) (tgt := 95) dX5_enact_55 (by decide) ?_
    refine q_rv (pc := 95) dX5_enact_95 rfl ?_
    rw [hs1]
    first
    | exact ⟨sh1 hF1, hS, hO⟩
    | exact ⟨sh1 hF2, hS, hO⟩
    | exact ⟨sh1 hF5, hS, hO⟩
    | exact ⟨hF6.tt (hF7.wk (by simp)), hS, hO⟩
    | (refine ⟨(sh1 hF3).tt (hF4.wk (by simp)), ?_, ?_⟩
       · show StR _ k (mSoft (mLift f i a) i)
         unfold mSoft
         have e3 : mLift f i a (10 + i) = f (10 + i) := by unfold mLift u1; rw [if_neg (by omega)]
         rw [e3] at hS ⊢
         have e4 : c9 (f (10 + i) + 1) = if f (10 + i) < 9 then f (10 + i) + 1 else f (10 + i) := by unfold c9; split <;> split <;> (try split) <;> omega
         rw [e4] at hS
         exact hS
       · show mOk (mSoft (mLift f i a) i)
         exact mSoft_ok (mLift_ok (by assumption) h0 h2) h0 h2)
  · refine q_tsIn (pc := 1) (off := 57) (tgt := 58) dX5_enact_1 (by omega) (by omega) (by omega) (by rw [hs1]; rfl) (by decide) ?_
    refine q_aload_n (pc := 58) dX5_enact_58 rfl ?_
    refine q_iload_n (pc := 59) dX5_enact_59 rfl ?_
    refine q_iload_n (pc := 60) dX5_enact_60 rfl ?_
    refine q_V2v (pc := 61) dX5_enact_61 vX5_47 (by first | assumption | rfl) (by rfl) (Nat.le_of_ble_eq_true rfl) (Nat.le_of_ble_eq_true rfl) (t_X5_shift' hk hS hO (by omega) (by omega) (by omega)) (fun σ3 hc3 => ?_)
    obtain ⟨hF3, hS, hO⟩ := hc3
    refine q_aload_n (pc := 64) dX5_enact_64 rfl ?_
    refine q_iload_n (pc := 65) dX5_enact_65 rfl ?_
    refine q_iconst (pc := 66) dX5_enact_66 ?_
    refine q_V2v (pc := 67) dX5_enact_67 vX5_51 (by first | assumption | rfl) (by rfl) (Nat.le_of_ble_eq_true rfl) (Nat.le_of_ble_eq_true rfl) (t_X5_soften hk hS hO (by omega) (by omega) (by omega)) (fun σ4 hc4 => ?_)
    obtain ⟨hF4, hS, hO⟩ := hc4
    refine q_goto (pc := 70) (tgt := 95) dX5_enact_70 (by decide) ?_
    refine q_rv (pc := 95) dX5_enact_95 rfl ?_
    rw [hs1]
    first
    | exact ⟨sh1 hF1, hS, hO⟩
    | exact ⟨sh1 hF2, hS, hO⟩
    | exact ⟨sh1 hF5, hS, hO⟩
    | exact ⟨hF6.tt (hF7.wk (by simp)), hS, hO⟩
    | (refine ⟨(sh1 hF3).tt (hF4.wk (by simp)), ?_, ?_⟩
       · show StR _ k (mSoft (mLift f i a) i)
         unfold mSoft
         have e3 : mLift f i a (10 + i) = f (10 + i) := by unfold mLift u1; rw [if_neg (by omega)]
         rw [e3] at hS ⊢
         have e4 : c9 (f (10 + i) + 1) = if f (10 + i) < 9 then f (10 + i) + 1 else f (10 + i) := by unfold c9; split <;> split <;> (try split) <;> omega
         rw [e4] at hS
         exact hS
       · show mOk (mSoft (mLift f i a) i)
         exact mSoft_ok (mLift_ok (by assumption) h0 h2) h0 h2)
  · refine q_tsIn (pc := 1) (off := 72) (tgt := 73) dX5_enact_1 (by omega) (by omega) (by omega) (by rw [hs1]; rfl) (by decide) ?_
    refine q_aload_n (pc := 73) dX5_enact_73 rfl ?_
    refine q_iload_n (pc := 74) dX5_enact_74 rfl ?_
    refine q_V1v (pc := 75) dX5_enact_75 vX5_54 (by first | assumption | rfl) (by rfl) (Nat.le_of_ble_eq_true rfl) (Nat.le_of_ble_eq_true rfl) (t_X5_wind hk hS hO (by omega)) (fun σ5 hc5 => ?_)
    obtain ⟨hF5, hS, hO⟩ := hc5
    refine q_goto (pc := 78) (tgt := 95) dX5_enact_78 (by decide) ?_
    refine q_rv (pc := 95) dX5_enact_95 rfl ?_
    rw [hs1]
    first
    | exact ⟨sh1 hF1, hS, hO⟩
    | exact ⟨sh1 hF2, hS, hO⟩
    | exact ⟨sh1 hF5, hS, hO⟩
    | exact ⟨hF6.tt (hF7.wk (by simp)), hS, hO⟩
    | (refine ⟨(sh1 hF3).tt (hF4.wk (by simp)), ?_, ?_⟩
       · show StR _ k (mSoft (mLift f i a) i)
         unfold mSoft
         have e3 : mLift f i a (10 + i) = f (10 + i) := by unfold mLift u1; rw [if_neg (by omega)]
         rw [e3] at hS ⊢
         have e4 : c9 (f (10 + i) + 1) = if f (10 + i) < 9 then f (10 + i) + 1 else f (10 + i) := by unfold c9; split <;> split <;> (try split) <;> omega
         rw [e4] at hS
         exact hS
       · show mOk (mSoft (mLift f i a) i)
         exact mSoft_ok (mLift_ok (by assumption) h0 h2) h0 h2)
  · refine q_tsIn (pc := 1) (off := 80) (tgt := 81) dX5_enact_1 (by omega) (by omega) (by omega) (by rw [hs1]; rfl) (by decide) ?_
    refine q_aload_n (pc := 81) dX5_enact_81 rfl ?_
    refine q_V0v (pc := 82) dX5_enact_82 vX5_58 (by first | assumption | rfl) (by rfl) (Nat.le_of_ble_eq_true rfl) (Nat.le_of_ble_eq_true rfl) (t_X5_changeWheels hk hS hO) (fun σ6 hc6 => ?_)
    obtain ⟨hF6, hS, hO⟩ := hc6
    refine q_aload_n (pc := 85) dX5_enact_85 rfl ?_
    refine q_iload_n (pc := 86) dX5_enact_86 rfl ?_
    refine q_iconst (pc := 87) dX5_enact_87 ?_
    refine q_idiv (pc := 88) dX5_enact_88 (by omega) ?_
    refine q_V1v (pc := 89) dX5_enact_89 vX5_54 (by first | assumption | rfl) (by rfl) (Nat.le_of_ble_eq_true rfl) (Nat.le_of_ble_eq_true rfl) (t_X5_wind hk hS hO (by omega)) (fun σ7 hc7 => ?_)
    obtain ⟨hF7, hS, hO⟩ := hc7
    refine q_goto (pc := 92) (tgt := 95) dX5_enact_92 (by decide) ?_
    refine q_rv (pc := 95) dX5_enact_95 rfl ?_
    rw [hs1]
    first
    | exact ⟨sh1 hF1, hS, hO⟩
    | exact ⟨sh1 hF2, hS, hO⟩
    | exact ⟨sh1 hF5, hS, hO⟩
    | exact ⟨hF6.tt (hF7.wk (by simp)), hS, hO⟩
    | (refine ⟨(sh1 hF3).tt (hF4.wk (by simp)), ?_, ?_⟩
       · show StR _ k (mSoft (mLift f i a) i)
         unfold mSoft
         have e3 : mLift f i a (10 + i) = f (10 + i) := by unfold mLift u1; rw [if_neg (by omega)]
         rw [e3] at hS ⊢
         have e4 : c9 (f (10 + i) + 1) = if f (10 + i) < 9 then f (10 + i) + 1 else f (10 + i) := by unfold c9; split <;> split <;> (try split) <;> omega
         rw [e4] at hS
         exact hS
       · show mOk (mSoft (mLift f i a) i)
         exact mSoft_ok (mLift_ok (by assumption) h0 h2) h0 h2)
  · exfalso; omega
end T5
