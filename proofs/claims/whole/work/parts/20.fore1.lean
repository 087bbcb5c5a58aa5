/-! ===== NightLevel$Foresight: behind hours, until level, worst, tries ===== -/
theorem st19 : qSt 19 := by unfold qSt; decide
theorem st47 : qSt 47 := by unfold qSt; decide
theorem st52 : qSt 52 := by unfold qSt; decide
theorem si15 : qSi 15 := by unfold qSi; decide
theorem bi_in (c : Prop) [Decidable c] : 0 ≤ bi c ∧ bi c ≤ 1 := by
  rcases bi_01 c with h | h <;> omega
/-- the site here: a row that stands -/
def Hr (σ : qM) (f : Int → Int) : Prop := SiR σ 15 f ∧ Row f ∧ f 0 = 1
theorem SiR.fr15 {σ σ' : qM} {f : Int → Int} {S : List Nat} (h : SiR σ 15 f) (hF : Fr σ σ' S) (hn : (15 ∉ S ∧ 16 ∉ S ∧ 17 ∉ S ∧ 18 ∉ S) ∧ 20 ∉ S ∧ 21 ∉ S) : SiR σ' 15 f := by
  obtain ⟨h1, h2, h3, h4⟩ := h
  obtain ⟨⟨n1, n2, n3, n4⟩, n5, n6⟩ := hn
  refine ⟨?_, ?_, StR.fr (k := 19) h3 hF n5 n6, ?_⟩
  · rw [hF 15 n1]; exact h1
  · rw [hF 15 n1]; exact h2
  · unfold DeR
    rw [hF (15 + 1) n2, hF (15 + 2) n3, hF (15 + 3) n4]
    exact h4
theorem Hr.fr {σ σ' : qM} {f : Int → Int} {S : List Nat} (h : Hr σ f) (hF : Fr σ σ' S) (hn : (15 ∉ S ∧ 16 ∉ S ∧ 17 ∉ S ∧ 18 ∉ S) ∧ 20 ∉ S ∧ 21 ∉ S) : Hr σ' f := ⟨h.1.fr15 hF hn, h.2.1, h.2.2⟩
theorem Hr.law {σ : qM} {f : Int → Int} (h : Hr σ f) : (0 ≤ f 1 ∧ f 1 ≤ 9) ∧ (0 ≤ f 2 ∧ f 2 ≤ 9) ∧ (1 ≤ f 3 ∧ f 3 ≤ 9) ∧ 1 ≤ f 5 := h.2.1.2.2.2.2.2.2.1 h.2.2
theorem Hr.st {σ : qM} {f : Int → Int} (h : Hr σ f) : StR σ 19 f := h.1.2.2.1
def mUntil (f : Int → Int) (w : Int) : Nat → Nat → Int
  | 0, k => k
  | m + 1, k => if bi (mLevel (mHours k f)) = w then k else mUntil f w m (k + 1)
/-- the greatest awry of the first t moments, and when first -/
def mWorst (f : Int → Int) : Nat → Int × Int
  | 0 => (-1, 0)
  | t + 1 => if (mWorst f t).1 < mAwry (mHours t f) then (mAwry (mHours t f), t) else mWorst f t
def mTry (f : Int → Int) (i : Int) : Int := mAwry (mAct f (f (13 + 3 * i)) (f (14 + 3 * i)) (f (15 + 3 * i)))
/-- of the first k deeds the best, and its awry -/
def mBest (f : Int → Int) : Nat → Int × Int
  | 0 => (-1000000, -1000000)
  | k + 1 => if mDone f k then mBest f k else if (mBest f k).1 = -1000000 ∨ mTry f k < (mBest f k).2 then (k, mTry f k) else mBest f k
section T2
variable {G : qGl} {d : Nat} {σ : qM} {k : Nat} {f g : Int → Int}
theorem t_X2_sunkBy {t : Int} (hk : qSt k) (hS : StR σ k g) (hO : mOk g) (ht : 0 ≤ t ∧ t ≤ 10000) : qE G mX2_sunkBy (d + 3) 0 [(0, vr 46), (1, vr k), (2, vi t)] [] σ (rr fun r σ1 => 52 = r ∧ Fr σ σ1 [53, 54] ∧ StR σ1 52 (mSink g t) ∧ mOk (mSink g t)) := by
  refine q_aload_n (pc := 0) dX2_sunkBy_0 rfl ?_
  refine q_getR (pc := 1) dX2_sunkBy_1 fX2_25 rfl rfl ?_
  refine q_aload_n (pc := 4) dX2_sunkBy_4 rfl ?_
  refine q_V1v (pc := 5) dX2_sunkBy_5 vX2_42 rfl rfl (Nat.le_of_ble_eq_true rfl) (Nat.le_of_ble_eq_true rfl) (t_X5_copyFrom (k := 52) (k' := k) st52 hk hS) (fun σ1 hc1 => ?_)
  obtain ⟨hF1, hS⟩ := hc1
  refine q_aload_n (pc := 8) dX2_sunkBy_8 rfl ?_
  refine q_getR (pc := 9) dX2_sunkBy_9 fX2_25 rfl rfl ?_
  refine q_iload_n (pc := 12) dX2_sunkBy_12 rfl ?_
  refine q_V1v (pc := 13) dX2_sunkBy_13 vX2_46 rfl rfl (Nat.le_of_ble_eq_true rfl) (Nat.le_of_ble_eq_true rfl) (t_X5_sink (k := 52) st52 hS hO ht) (fun σ2 hc2 => ?_)
  obtain ⟨hF2, hS, hO⟩ := hc2
  refine q_aload_n (pc := 16) dX2_sunkBy_16 rfl ?_
  refine q_getR (pc := 17) dX2_sunkBy_17 fX2_25 rfl rfl ?_
  refine q_rr (pc := 20) dX2_sunkBy_20 rfl ?_
  exact ⟨rfl, Fr.tt hF1 (hF2.wk (by decide)), hS, hO⟩
theorem t_X2_behind {n : Int} (hH : Hr σ f) (hk : qSt k) (hS : StR σ k g) (hO : mOk g) (hg : g 3 = f 3 ∧ g 4 = f 4) (hn : 0 ≤ n ∧ n ≤ 1000) : qE G mX2_behind (d + 4) 0 [(0, vr 46), (1, vr 15), (2, vr k), (3, vi n)] [] σ (rr fun r σ1 => 52 = r ∧ Fr σ σ1 [53, 54] ∧ StR σ1 52 (mHours n.toNat g) ∧ mOk (mHours n.toNat g)) := by
  have hl := hH.law
  have h4 := hH.2.1.2.1
  have hm := mRains_in (f := f) (n := n) hl.2.2.1.1 h4.1 hn.1
  have hO0 := hO
  refine q_aload_n (pc := 0) dX2_behind_0 rfl ?_
  refine q_aload_n (pc := 1) dX2_behind_1 rfl ?_
  refine q_aload_n (pc := 2) dX2_behind_2 rfl ?_
  refine q_iload_n (pc := 3) dX2_behind_3 rfl ?_
  refine q_V1i (pc := 4) dX2_behind_4 vX2_32 rfl rfl (Nat.le_of_ble_eq_true rfl) (Nat.le_of_ble_eq_true rfl) (t_X4_rainsWithin si15 hH.1 hH.2.1 hH.2.2 (by omega)) (fun r1 σ1 hc1 => ?_)
  obtain ⟨rfl, rfl⟩ := hc1
  refine q_V2r (pc := 7) dX2_behind_7 vX2_38 rfl rfl (Nat.le_of_ble_eq_true rfl) (Nat.le_of_ble_eq_true rfl) (t_X2_sunkBy hk hS hO (by omega)) (fun r2 σ2 hc2 => ?_)
  obtain ⟨rfl, hF2, hS, hO⟩ := hc2
  refine q_rr (pc := 10) dX2_behind_10 rfl ?_
  refine ⟨rfl, hF2, StR.congr hS (fun j h7 h12 => ?_), mHours_ok hO0 _⟩
  rw [sink_hours hO0 (by omega) (by omega) n.toNat j h7 h12, Int.toNat_of_nonneg hn.1]
  unfold mRains
  rw [hg.1, hg.2]
theorem t_X2_behindN {n : Nat} (hH : Hr σ f) (hk : qSt k) (hS : StR σ k g) (hO : mOk g) (hg : g 3 = f 3 ∧ g 4 = f 4) (hn : n ≤ 1000) : qE G mX2_behind (d + 4) 0 [(0, vr 46), (1, vr 15), (2, vr k), (3, vi n)] [] σ (rr fun r σ1 => 52 = r ∧ Fr σ σ1 [53, 54] ∧ StR σ1 52 (mHours n g) ∧ mOk (mHours n g)) := by
  have q := t_X2_behind (G := G) (d := d) (n := (n : Int)) hH hk hS hO hg (by omega)
  rwa [Int.toNat_natCast] at q
theorem Hr.fr2 {σ σ' : qM} {f : Int → Int} (h : Hr σ f) (hF : Fr σ σ' [53, 54]) : Hr σ' f := h.fr hF (by decide)
theorem t_X2_untilLevelIs_l {w : Int} (hH0 : Hr σ f) (hw : w = 0 ∨ w = 1) : ∀ (m k : Nat) (σ' : qM), m + k = 61 → Fr σ σ' [53, 54] → qE G mX2_untilLevelIs (d + 5) 2 [(3, vi k), (0, vr 46), (1, vr 15), (2, vi w)] [] σ' (ri fun r σ1 => mUntil f w m k = r ∧ Fr σ σ1 [53, 54]) := by
  intro m
  induction m with
  | zero =>
    intro k σ' hk hF
    refine q_iload_n (pc := 2) dX2_untilLevelIs_2 rfl ?_
    refine q_bipush (pc := 3) dX2_untilLevelIs_3 (by decide +kernel) ?_
    refine q_icmpgt (pc := 5) (tgt := 32) dX2_untilLevelIs_5 (by decide) (by omega) (by omega) (fun h5 => ?_) (fun h => absurd h (by omega))
    refine q_iload_n (pc := 32) dX2_untilLevelIs_32 rfl ?_
    refine q_ri (pc := 33) dX2_untilLevelIs_33 rfl ?_
    exact ⟨rfl, hF⟩
  | succ m ih =>
    intro k σ' hk hF
    have hH := hH0.fr2 hF
    have hS := hH.st
    have hO := hH.2.1.1
    have hbi := bi_in (mLevel (mHours k f))
    refine q_iload_n (pc := 2) dX2_untilLevelIs_2 rfl ?_
    refine q_bipush (pc := 3) dX2_untilLevelIs_3 (by decide +kernel) ?_
    refine q_icmpgt (pc := 5) (tgt := 32) dX2_untilLevelIs_5 (by decide) (by omega) (by omega) (fun h => absurd h (by omega)) (fun h5 => ?_)
    refine q_aload_n (pc := 8) dX2_untilLevelIs_8 rfl ?_
    refine q_aload_n (pc := 9) dX2_untilLevelIs_9 rfl ?_
    refine q_aload_n (pc := 10) dX2_untilLevelIs_10 rfl ?_
    refine q_aload_n (pc := 11) dX2_untilLevelIs_11 rfl ?_
    refine q_getR (pc := 12) dX2_untilLevelIs_12 fX2_50 rfl rfl ?_
    refine q_iload_n (pc := 15) dX2_untilLevelIs_15 rfl ?_
    refine q_V3r (pc := 16) dX2_untilLevelIs_16 vX2_53 rfl rfl (Nat.le_of_ble_eq_true rfl) (Nat.le_of_ble_eq_true rfl) (t_X2_behindN hH st19 hS hO ⟨rfl, rfl⟩ (by omega)) (fun r1 σ1 hc1 => ?_)
    obtain ⟨rfl, hF1, hS1, hO1⟩ := hc1
    refine q_V1i (pc := 19) dX2_untilLevelIs_19 vX2_57 rfl rfl (Nat.le_of_ble_eq_true rfl) (Nat.le_of_ble_eq_true rfl) (t_X4_isLevel si15 st52 (hH.fr2 hF1).1 hH.2.1 hH.2.2 hS1 hO1 ⟨mHours_o f (by omega) _, mHours_o f (by omega) _⟩) (fun r2 σ2 hc2 => ?_)
    obtain ⟨rfl, rfl⟩ := hc2
    refine q_iload_n (pc := 22) dX2_untilLevelIs_22 rfl ?_
    refine q_icmpeq (pc := 23) (tgt := 32) dX2_untilLevelIs_23 (by decide) (by omega) (by omega) (fun h23 => ?_) (fun h23 => ?_)
    · refine q_iload_n (pc := 32) dX2_untilLevelIs_32 rfl ?_
      refine q_ri (pc := 33) dX2_untilLevelIs_33 rfl ?_
      refine ⟨?_, hF.tt hF1⟩
      show (if bi (mLevel (mHours k f)) = w then (k : Int) else _) = _
      rw [if_pos h23]
    · refine q_iinc (pc := 26) dX2_untilLevelIs_26 rfl (Nat.le_of_ble_eq_true rfl) ?_
      refine q_goto (pc := 29) (tgt := 2) dX2_untilLevelIs_29 (by decide) ?_
      have q := ih (k + 1) σ1 (by omega) (hF.tt hF1)
      have e : mUntil f w (m + 1) k = mUntil f w m (k + 1) := if_neg h23
      rw [e]
      exact q
theorem t_X2_untilLevelIs {w : Int} (hH : Hr σ f) (hw : w = 0 ∨ w = 1) : qE G mX2_untilLevelIs (d + 5) 0 [(0, vr 46), (1, vr 15), (2, vi w)] [] σ (ri fun r σ1 => mUntil f w 61 0 = r ∧ Fr σ σ1 [53, 54]) := by
  refine q_iconst (pc := 0) dX2_untilLevelIs_0 ?_
  refine q_istore_n (pc := 1) dX2_untilLevelIs_1 (Nat.le_of_ble_eq_true rfl) ?_
  exact t_X2_untilLevelIs_l hH hw 61 0 σ rfl Fr.rf
theorem mWorst_in {f : Int → Int} (ho : mOk f) : ∀ t : Nat, (-1 ≤ (mWorst f t).1 ∧ (mWorst f t).1 ≤ 198) ∧ (0 ≤ (mWorst f t).2 ∧ (mWorst f t).2 ≤ t)
  | 0 => by simp [mWorst]
  | t + 1 => by
    have ih := mWorst_in ho t
    have ha := mAwry_in (mHours_ok ho t)
    unfold mWorst
    split
    · simp only; omega
    · omega
theorem t_X2_worstHour_l {n : Int} (hH0 : Hr σ f) (hn : 0 ≤ n ∧ n ≤ 60) : ∀ (m k : Nat) (σ' : qM) (a6 : List (Nat × qV)), (m : Int) + k = n + 1 → Fr σ σ' [53, 54] → qE G mX2_worstHour (d + 5) 8 [(5, vi k), (4, vi (mWorst f k).2), (3, vi (mWorst f k).1), (0, vr 46), (1, vr 15), (2, vi n)] [] σ' (ri fun r σ1 => (mWorst f (n + 1).toNat).2 = r ∧ Fr σ σ1 [53, 54]) := by
  intro m
  induction m with
  | zero =>
    intro k σ' a6 hk hF
    have hk2 : (n + 1).toNat = k := by omega
    rw [hk2]
    have hb := mWorst_in hH0.2.1.1 k
    refine q_iload (pc := 8) dX2_worstHour_8 rfl ?_
    refine q_iload_n (pc := 10) dX2_worstHour_10 rfl ?_
    refine q_icmpgt (pc := 11) (tgt := 49) dX2_worstHour_11 (by decide) (by omega) (by omega) (fun h11 => ?_) (fun h => absurd h (by omega))
    refine q_iload (pc := 49) dX2_worstHour_49 rfl ?_
    refine q_ri (pc := 51) dX2_worstHour_51 rfl ?_
    exact ⟨rfl, hF⟩
  | succ m ih =>
    intro k σ' a6 hk hF
    have hH := hH0.fr2 hF
    have hS := hH.st
    have hO := hH.2.1.1
    have hb := mWorst_in hO k
    have ha := mAwry_in (mHours_ok hO k)
    refine q_iload (pc := 8) dX2_worstHour_8 rfl ?_
    refine q_iload_n (pc := 10) dX2_worstHour_10 rfl ?_
    refine q_icmpgt (pc := 11) (tgt := 49) dX2_worstHour_11 (by decide) (by omega) (by omega) (fun h => absurd h (by omega)) (fun h11 => ?_)
    refine q_aload_n (pc := 14) dX2_worstHour_14 rfl ?_
    refine q_aload_n (pc := 15) dX2_worstHour_15 rfl ?_
    refine q_aload_n (pc := 16) dX2_worstHour_16 rfl ?_
    refine q_getR (pc := 17) dX2_worstHour_17 fX2_50 rfl rfl ?_
    refine q_iload (pc := 20) dX2_worstHour_20 rfl ?_
    refine q_V3r (pc := 22) dX2_worstHour_22 vX2_53 rfl rfl (Nat.le_of_ble_eq_true rfl) (Nat.le_of_ble_eq_true rfl) (t_X2_behindN hH st19 hS hO ⟨rfl, rfl⟩ (by omega)) (fun r1 σ1 hc1 => ?_)
    obtain ⟨rfl, hF1, hS1, hO1⟩ := hc1
    refine q_V0i (pc := 25) dX2_worstHour_25 vX2_61 rfl rfl (Nat.le_of_ble_eq_true rfl) (Nat.le_of_ble_eq_true rfl) (t_X5_awry st52 hS1 hO1) (fun r2 σ2 hc2 => ?_)
    obtain ⟨rfl, rfl⟩ := hc2
    refine q_istore (pc := 28) dX2_worstHour_28 (Nat.le_of_ble_eq_true rfl) ?_
    refine q_iload (pc := 30) dX2_worstHour_30 rfl ?_
    refine q_iload_n (pc := 32) dX2_worstHour_32 rfl ?_
    refine q_icmple (pc := 33) (tgt := 43) dX2_worstHour_33 (by decide) (by omega) (by omega) (fun h33 => ?_) (fun h33 => ?_)
    · refine q_iinc (pc := 43) dX2_worstHour_43 rfl (Nat.le_of_ble_eq_true rfl) ?_
      refine q_goto (pc := 46) (tgt := 8) dX2_worstHour_46 (by decide) ?_
      first
      | (have q := ih (k + 1) σ1 [] (by omega) (hF.tt hF1)
         have e : mWorst f (k + 1) = (mAwry (mHours k f), (k : Int)) := if_pos (by omega)
         rw [e] at q
         exact q_locs _ [0, 1, 2, 4, 5, 6] rfl q)
      | (have q := ih (k + 1) σ1 [] (by omega) (hF.tt hF1)
         have e : mWorst f (k + 1) = mWorst f k := if_neg (by omega)
         rw [e] at q
         exact q_locs _ [0, 2, 3, 4, 5, 6] rfl q)
    · refine q_iload (pc := 36) dX2_worstHour_36 rfl ?_
      refine q_istore_n (pc := 38) dX2_worstHour_38 (Nat.le_of_ble_eq_true rfl) ?_
      refine q_iload (pc := 39) dX2_worstHour_39 rfl ?_
      refine q_istore (pc := 41) dX2_worstHour_41 (Nat.le_of_ble_eq_true rfl) ?_
      refine q_iinc (pc := 43) dX2_worstHour_43 rfl (Nat.le_of_ble_eq_true rfl) ?_
      refine q_goto (pc := 46) (tgt := 8) dX2_worstHour_46 (by decide) ?_
      first
      | (have q := ih (k + 1) σ1 [] (by omega) (hF.tt hF1)
         have e : mWorst f (k + 1) = (mAwry (mHours k f), (k : Int)) := if_pos (by omega)
         rw [e] at q
         exact q_locs _ [0, 1, 2, 4, 5, 6] rfl q)
      | (have q := ih (k + 1) σ1 [] (by omega) (hF.tt hF1)
         have e : mWorst f (k + 1) = mWorst f k := if_neg (by omega)
         rw [e] at q
         exact q_locs _ [0, 2, 3, 4, 5, 6] rfl q)
theorem t_X2_worstHour {n : Int} (hH : Hr σ f) (hn : 0 ≤ n ∧ n ≤ 60) : qE G mX2_worstHour (d + 5) 0 [(0, vr 46), (1, vr 15), (2, vi n)] [] σ (ri fun r σ1 => (mWorst f (n + 1).toNat).2 = r ∧ Fr σ σ1 [53, 54]) := by
  refine q_iconst (pc := 0) dX2_worstHour_0 ?_
  refine q_istore_n (pc := 1) dX2_worstHour_1 (Nat.le_of_ble_eq_true rfl) ?_
  refine q_iconst (pc := 2) dX2_worstHour_2 ?_
  refine q_istore (pc := 3) dX2_worstHour_3 (Nat.le_of_ble_eq_true rfl) ?_
  refine q_iconst (pc := 5) dX2_worstHour_5 ?_
  refine q_istore (pc := 6) dX2_worstHour_6 (Nat.le_of_ble_eq_true rfl) ?_
  exact t_X2_worstHour_l hH hn (n + 1).toNat 0 σ [] (by omega) Fr.rf
theorem Hr.fr3 {σ σ' : qM} {f : Int → Int} (h : Hr σ f) (hF : Fr σ σ' [48, 49]) : Hr σ' f := h.fr hF (by decide)
theorem t_X2_awryIf {i : Int} (hH : Hr σ f) (hi : 0 ≤ i ∧ i < f 5) : qE G mX2_awryIf (d + 5) 0 [(0, vr 46), (1, vr 15), (2, vi i)] [] σ (ri fun r σ1 => mTry f i = r ∧ Fr σ σ1 [48, 49]) := by
  refine q_aload_n (pc := 0) dX2_awryIf_0 rfl ?_
  refine q_getR (pc := 1) dX2_awryIf_1 fX2_12 rfl rfl ?_
  refine q_aload_n (pc := 4) dX2_awryIf_4 rfl ?_
  refine q_getR (pc := 5) dX2_awryIf_5 fX2_50 rfl rfl ?_
  refine q_V1v (pc := 8) dX2_awryIf_8 vX2_42 rfl rfl (Nat.le_of_ble_eq_true rfl) (Nat.le_of_ble_eq_true rfl) (t_X5_copyFrom (k := 47) (k' := 19) st47 st19 hH.st) (fun σ1 hc1 => ?_)
  obtain ⟨hF1, hS1⟩ := hc1
  refine q_aload_n (pc := 11) dX2_awryIf_11 rfl ?_
  refine q_iload_n (pc := 12) dX2_awryIf_12 rfl ?_
  refine q_aload_n (pc := 13) dX2_awryIf_13 rfl ?_
  refine q_getR (pc := 14) dX2_awryIf_14 fX2_12 rfl rfl ?_
  refine q_V2v (pc := 17) dX2_awryIf_17 vX2_65 rfl rfl (Nat.le_of_ble_eq_true rfl) (Nat.le_of_ble_eq_true rfl) (t_X4_enact si15 st47 (hH.fr3 hF1).1 hH.2.1 hi hS1 hH.2.1.1) (fun σ2 hc2 => ?_)
  obtain ⟨hF2, hS2, hO2⟩ := hc2
  refine q_aload_n (pc := 20) dX2_awryIf_20 rfl ?_
  refine q_getR (pc := 21) dX2_awryIf_21 fX2_12 rfl rfl ?_
  refine q_V0i (pc := 24) dX2_awryIf_24 vX2_61 rfl rfl (Nat.le_of_ble_eq_true rfl) (Nat.le_of_ble_eq_true rfl) (t_X5_awry st47 hS2 hO2) (fun r3 σ3 hc3 => ?_)
  obtain ⟨rfl, rfl⟩ := hc3
  refine q_ri (pc := 27) dX2_awryIf_27 rfl ?_
  exact ⟨rfl, hF1.tt hF2⟩
theorem mTry_in {f : Int → Int} (hR : Row f) {i : Int} (h0 : 0 ≤ i) (h1 : i < f 5) : 0 ≤ mTry f i ∧ mTry f i ≤ 198 := by
  obtain ⟨ho, -, -, -, -, -, -, h8⟩ := hR
  have := (h8 i h0 h1).2.1
  exact mAwry_in (mAct_ok ho this.1 this.2)
theorem mBest_in {f : Int → Int} (hR : Row f) : ∀ k : Nat, (k : Int) ≤ f 5 → ((mBest f k).1 = -1000000 ∨ (0 ≤ (mBest f k).1 ∧ (mBest f k).1 < k ∧ 0 ≤ (mBest f k).2 ∧ (mBest f k).2 ≤ 198 ∧ (mBest f k).2 = mTry f (mBest f k).1 ∧ ¬ mDone f (mBest f k).1))
  | 0, _ => Or.inl rfl
  | k + 1, h => by
    have ih := mBest_in hR k (by omega)
    have ht := mTry_in hR (i := k) (by omega) (by omega)
    unfold mBest
    split
    · rcases ih with q | q
      · exact Or.inl q
      · exact Or.inr ⟨q.1, by omega, q.2.2⟩
    · split
      · exact Or.inr ⟨by simp only; omega, by simp only; omega, ht.1, ht.2, rfl, by assumption⟩
      · rcases ih with q | q
        · exact Or.inl q
        · exact Or.inr ⟨q.1, by omega, q.2.2⟩
theorem t_X2_bestDeed_l (hH0 : Hr σ f) : ∀ (m k : Nat) (σ' : qM) (lst : Int), (m : Int) + k = f 5 → Fr σ σ' [48, 49] → (lst = if (mBest f k).1 = -1000000 then 0 else (mBest f k).2) → qE G mX2_bestDeed (d + 6) 8 [(4, vi k), (3, vi lst), (2, vi (mBest f k).1), (0, vr 46), (1, vr 15)] [] σ' (ri fun r σ1 => (mBest f (f 5).toNat).1 = r ∧ Fr σ σ1 [48, 49]) := by
  intro m
  induction m with
  | zero =>
    intro k σ' lst hk hF hl
    have hk2 : (f 5).toNat = k := by omega
    rw [hk2]
    have hH := hH0.fr3 hF
    have e5 := hH.1.1.2.2.1
    have hr := hH.2.1.de
    have hb := mBest_in hH.2.1 k (by omega)
    refine q_iload (pc := 8) dX2_bestDeed_8 rfl ?_
    refine q_aload_n (pc := 10) dX2_bestDeed_10 rfl ?_
    refine q_gI (pc := 11) 5 dX2_bestDeed_11 fX2_70 rfl rfl rfl ?_
    refine q_icmpge (pc := 14) (tgt := 62) dX2_bestDeed_14 (by decide) (by omega) (by omega) (fun h14 => ?_) (fun h => absurd h (by omega))
    refine q_iload_n (pc := 62) dX2_bestDeed_62 rfl ?_
    refine q_ri (pc := 63) dX2_bestDeed_63 rfl ?_
    exact ⟨rfl, hF⟩
  | succ m ih =>
    intro k σ' lst hk hF hl
    have hH := hH0.fr3 hF
    have e5 := hH.1.1.2.2.1
    have hr := hH.2.1.de
    have hb := mBest_in hH.2.1 k (by omega)
    have ht := mTry_in hH.2.1 (i := k) (by omega) (by omega)
    have hlst : 0 ≤ lst ∧ lst ≤ 198 := by
      rw [hl]
      split <;> omega
    refine q_iload (pc := 8) dX2_bestDeed_8 rfl ?_
    refine q_aload_n (pc := 10) dX2_bestDeed_10 rfl ?_
    refine q_gI (pc := 11) 5 dX2_bestDeed_11 fX2_70 rfl rfl rfl ?_
    refine q_icmpge (pc := 14) (tgt := 62) dX2_bestDeed_14 (by decide) (by omega) (by omega) (fun h => absurd h (by omega)) (fun h14 => ?_)
    refine q_aload_n (pc := 17) dX2_bestDeed_17 rfl ?_
    refine q_iload (pc := 18) dX2_bestDeed_18 rfl ?_
    refine q_V1i (pc := 20) dX2_bestDeed_20 vX2_74 rfl rfl (Nat.le_of_ble_eq_true rfl) (Nat.le_of_ble_eq_true rfl) (t_X4_isDone si15 hH.1) (fun r1 σ1 hc1 => ?_)
    obtain ⟨rfl, rfl⟩ := hc1
    refine q_ifeqb (pc := 23) (tgt := 29) dX2_bestDeed_23 (by decide) (fun h23 => ?_) (fun h23 => ?_)
    · refine q_aload_n (pc := 29) dX2_bestDeed_29 rfl ?_
      refine q_aload_n (pc := 30) dX2_bestDeed_30 rfl ?_
      refine q_iload (pc := 31) dX2_bestDeed_31 rfl ?_
      refine q_V2i (pc := 33) dX2_bestDeed_33 vX2_78 rfl rfl (Nat.le_of_ble_eq_true rfl) (Nat.le_of_ble_eq_true rfl) (t_X2_awryIf hH (by omega)) (fun r2 σ2 hc2 => ?_)
      obtain ⟨rfl, hF2⟩ := hc2
      refine q_istore (pc := 36) dX2_bestDeed_36 (Nat.le_of_ble_eq_true rfl) ?_
      refine q_iload_n (pc := 38) dX2_bestDeed_38 rfl ?_
      refine q_ldc (pc := 39) (n := -1000000) kX2_69 dX2_bestDeed_39 ?_
      refine q_icmpeq (pc := 41) (tgt := 50) dX2_bestDeed_41 (by decide) (by omega) (by omega) (fun h41 => ?_) (fun h41 => ?_)
      · refine q_iload (pc := 50) dX2_bestDeed_50 rfl ?_
        refine q_istore_n (pc := 52) dX2_bestDeed_52 (Nat.le_of_ble_eq_true rfl) ?_
        refine q_iload (pc := 53) dX2_bestDeed_53 rfl ?_
        refine q_istore_n (pc := 55) dX2_bestDeed_55 (Nat.le_of_ble_eq_true rfl) ?_
        refine q_iinc (pc := 56) dX2_bestDeed_56 rfl (Nat.le_of_ble_eq_true rfl) ?_
        refine q_goto (pc := 59) (tgt := 8) dX2_bestDeed_59 (by decide) ?_
        first
        | (have e : mBest f (k + 1) = mBest f k := if_pos (by assumption)
           have q := ih (k + 1) σ' lst (by omega) hF (by rw [e]; exact hl)
           rw [e] at q
           exact q_locs _ [0, 1, 2, 3, 4] rfl q)
        | (have e : mBest f (k + 1) = mBest f k := by
             show (if mDone f k then mBest f k else if (mBest f k).1 = -1000000 ∨ mTry f k < (mBest f k).2 then ((k : Int), mTry f k) else mBest f k) = mBest f k
             rw [if_neg (by assumption), if_neg]
             intro z
             rcases z with z | z
             · rw [if_pos z] at hl; omega
             · by_cases y : (mBest f k).1 = -1000000
               · rw [if_pos y] at hl; omega
               · rw [if_neg y] at hl; omega
           have q := ih (k + 1) σ2 lst (by omega) (hF.tt hF2) (by rw [e]; exact hl)
           rw [e] at q
           exact q_locs _ [0, 2, 3, 4, 5] rfl q)
        | (have e : mBest f (k + 1) = ((k : Int), mTry f k) := by
             show (if mDone f k then mBest f k else if (mBest f k).1 = -1000000 ∨ mTry f k < (mBest f k).2 then ((k : Int), mTry f k) else mBest f k) = _
             rw [if_neg (by assumption), if_pos]
             by_cases y : (mBest f k).1 = -1000000
             · exact Or.inl y
             · rw [if_neg y] at hl; exact Or.inr (by omega)
           have q := ih (k + 1) σ2 (mTry f k) (by omega) (hF.tt hF2) (by rw [e]; rw [if_neg (by simp only; omega)])
           rw [e] at q
           exact q_locs _ [0, 2, 1, 4, 5] rfl q)
      · refine q_iload (pc := 44) dX2_bestDeed_44 rfl ?_
        refine q_iload_n (pc := 46) dX2_bestDeed_46 rfl ?_
        refine q_icmpge (pc := 47) (tgt := 56) dX2_bestDeed_47 (by decide) (by omega) (by omega) (fun h47 => ?_) (fun h47 => ?_)
        · refine q_iinc (pc := 56) dX2_bestDeed_56 rfl (Nat.le_of_ble_eq_true rfl) ?_
          refine q_goto (pc := 59) (tgt := 8) dX2_bestDeed_59 (by decide) ?_
          first
          | (have e : mBest f (k + 1) = mBest f k := if_pos (by assumption)
             have q := ih (k + 1) σ' lst (by omega) hF (by rw [e]; exact hl)
             rw [e] at q
             exact q_locs _ [0, 1, 2, 3, 4] rfl q)
          | (have e : mBest f (k + 1) = mBest f k := by
               show (if mDone f k then mBest f k else if (mBest f k).1 = -1000000 ∨ mTry f k < (mBest f k).2 then ((k : Int), mTry f k) else mBest f k) = mBest f k
               rw [if_neg (by assumption), if_neg]
               intro z
               rcases z with z | z
               · rw [if_pos z] at hl; omega
               · by_cases y : (mBest f k).1 = -1000000
                 · rw [if_pos y] at hl; omega
                 · rw [if_neg y] at hl; omega
             have q := ih (k + 1) σ2 lst (by omega) (hF.tt hF2) (by rw [e]; exact hl)
             rw [e] at q
             exact q_locs _ [0, 2, 3, 4, 5] rfl q)
          | (have e : mBest f (k + 1) = ((k : Int), mTry f k) := by
               show (if mDone f k then mBest f k else if (mBest f k).1 = -1000000 ∨ mTry f k < (mBest f k).2 then ((k : Int), mTry f k) else mBest f k) = _
               rw [if_neg (by assumption), if_pos]
               by_cases y : (mBest f k).1 = -1000000
               · exact Or.inl y
               · rw [if_neg y] at hl; exact Or.inr (by omega)
             have q := ih (k + 1) σ2 (mTry f k) (by omega) (hF.tt hF2) (by rw [e]; rw [if_neg (by simp only; omega)])
             rw [e] at q
             exact q_locs _ [0, 2, 1, 4, 5] rfl q)
        · refine q_iload (pc := 50) dX2_bestDeed_50 rfl ?_
          refine q_istore_n (pc := 52) dX2_bestDeed_52 (Nat.le_of_ble_eq_true rfl) ?_
          refine q_iload (pc := 53) dX2_bestDeed_53 rfl ?_
          refine q_istore_n (pc := 55) dX2_bestDeed_55 (Nat.le_of_ble_eq_true rfl) ?_
          refine q_iinc (pc := 56) dX2_bestDeed_56 rfl (Nat.le_of_ble_eq_true rfl) ?_
          refine q_goto (pc := 59) (tgt := 8) dX2_bestDeed_59 (by decide) ?_
          first
          | (have e : mBest f (k + 1) = mBest f k := if_pos (by assumption)
             have q := ih (k + 1) σ' lst (by omega) hF (by rw [e]; exact hl)
             rw [e] at q
             exact q_locs _ [0, 1, 2, 3, 4] rfl q)
          | (have e : mBest f (k + 1) = mBest f k := by
               show (if mDone f k then mBest f k else if (mBest f k).1 = -1000000 ∨ mTry f k < (mBest f k).2 then ((k : Int), mTry f k) else mBest f k) = mBest f k
               rw [if_neg (by assumption), if_neg]
               intro z
               rcases z with z | z
               · rw [if_pos z] at hl; omega
               · by_cases y : (mBest f k).1 = -1000000
                 · rw [if_pos y] at hl; omega
                 · rw [if_neg y] at hl; omega
             have q := ih (k + 1) σ2 lst (by omega) (hF.tt hF2) (by rw [e]; exact hl)
             rw [e] at q
             exact q_locs _ [0, 2, 3, 4, 5] rfl q)
          | (have e : mBest f (k + 1) = ((k : Int), mTry f k) := by
               show (if mDone f k then mBest f k else if (mBest f k).1 = -1000000 ∨ mTry f k < (mBest f k).2 then ((k : Int), mTry f k) else mBest f k) = _
               rw [if_neg (by assumption), if_pos]
               by_cases y : (mBest f k).1 = -1000000
               · exact Or.inl y
               · rw [if_neg y] at hl; exact Or.inr (by omega)
             have q := ih (k + 1) σ2 (mTry f k) (by omega) (hF.tt hF2) (by rw [e]; rw [if_neg (by simp only; omega)])
             rw [e] at q
             exact q_locs _ [0, 2, 1, 4, 5] rfl q)
    · refine q_goto (pc := 26) (tgt := 56) dX2_bestDeed_26 (by decide) ?_
      refine q_iinc (pc := 56) dX2_bestDeed_56 rfl (Nat.le_of_ble_eq_true rfl) ?_
      refine q_goto (pc := 59) (tgt := 8) dX2_bestDeed_59 (by decide) ?_
      first
      | (have e : mBest f (k + 1) = mBest f k := if_pos (by assumption)
         have q := ih (k + 1) σ' lst (by omega) hF (by rw [e]; exact hl)
         rw [e] at q
         exact q_locs _ [0, 1, 2, 3, 4] rfl q)
      | (have e : mBest f (k + 1) = mBest f k := by
           show (if mDone f k then mBest f k else if (mBest f k).1 = -1000000 ∨ mTry f k < (mBest f k).2 then ((k : Int), mTry f k) else mBest f k) = mBest f k
           rw [if_neg (by assumption), if_neg]
           intro z
           rcases z with z | z
           · rw [if_pos z] at hl; omega
           · by_cases y : (mBest f k).1 = -1000000
             · rw [if_pos y] at hl; omega
             · rw [if_neg y] at hl; omega
         have q := ih (k + 1) σ2 lst (by omega) (hF.tt hF2) (by rw [e]; exact hl)
         rw [e] at q
         exact q_locs _ [0, 2, 3, 4, 5] rfl q)
      | (have e : mBest f (k + 1) = ((k : Int), mTry f k) := by
           show (if mDone f k then mBest f k else if (mBest f k).1 = -1000000 ∨ mTry f k < (mBest f k).2 then ((k : Int), mTry f k) else mBest f k) = _
           rw [if_neg (by assumption), if_pos]
           by_cases y : (mBest f k).1 = -1000000
           · exact Or.inl y
           · rw [if_neg y] at hl; exact Or.inr (by omega)
         have q := ih (k + 1) σ2 (mTry f k) (by omega) (hF.tt hF2) (by rw [e]; rw [if_neg (by simp only; omega)])
         rw [e] at q
         exact q_locs _ [0, 2, 1, 4, 5] rfl q)
theorem t_X2_bestDeed (hH : Hr σ f) : qE G mX2_bestDeed (d + 6) 0 [(0, vr 46), (1, vr 15)] [] σ (ri fun r σ1 => (mBest f (f 5).toNat).1 = r ∧ Fr σ σ1 [48, 49]) := by
  have hr := hH.2.1.de
  refine q_ldc (pc := 0) (n := -1000000) kX2_69 dX2_bestDeed_0 ?_
  refine q_istore_n (pc := 2) dX2_bestDeed_2 (Nat.le_of_ble_eq_true rfl) ?_
  refine q_iconst (pc := 3) dX2_bestDeed_3 ?_
  refine q_istore_n (pc := 4) dX2_bestDeed_4 (Nat.le_of_ble_eq_true rfl) ?_
  refine q_iconst (pc := 5) dX2_bestDeed_5 ?_
  refine q_istore (pc := 6) dX2_bestDeed_6 (Nat.le_of_ble_eq_true rfl) ?_
  exact t_X2_bestDeed_l hH (f 5).toNat 0 σ _ (by omega) Fr.rf rfl
end T2
