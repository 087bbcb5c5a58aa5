/-! ===== lift ===== -/
def lw (k w : Int) : Int := if w = 0 then k / 441 else if w = 1 then k / 21 % 21 else k % 21
def lC (k : Int) : Int := k / 441 + k / 21 % 21 + k % 21
abbrev lPr (f : Int → Int) (k : Int) : Prop := mLevel (mLift (mLift (mLift f 0 (k / 441)) 1 (k / 21 % 21)) 2 (k % 21))
def lZ (f : Int → Int) (k : Nat) : Int × Int := mSel (lPr f) lC k
theorem lZ_in (f : Int → Int) (k : Nat) : ((lZ f k).1 = -1000000 ∧ (lZ f k).2 = -1000000) ∨ (0 ≤ (lZ f k).1 ∧ (lZ f k).1 < k ∧ (lZ f k).2 = (lZ f k).1 / 441 + (lZ f k).1 / 21 % 21 + (lZ f k).1 % 21) := by
  rcases mSel_in (lPr f) lC k with q | q
  · exact Or.inl q
  · exact Or.inr ⟨q.1, q.2.1, q.2.2.1⟩
theorem lZ_y {f : Int → Int} {k : Nat} (h : (lZ f k).1 = -1000000 ∨ (k : Int) / 441 + (k : Int) / 21 % 21 + (k : Int) % 21 < (lZ f k).2) (h2 : mLevel (mLift (mLift (mLift f 0 ((k : Int) / 441)) 1 ((k : Int) / 21 % 21)) 2 ((k : Int) % 21))) : lZ f (k + 1) = ((k : Int), (k : Int) / 441 + (k : Int) / 21 % 21 + (k : Int) % 21) := mSel_y (P := lPr f) (c := lC) h h2
theorem lZ_n {f : Int → Int} {k : Nat} (h : ¬ ((lZ f k).1 = -1000000 ∨ (k : Int) / 441 + (k : Int) / 21 % 21 + (k : Int) % 21 < (lZ f k).2) ∨ ¬ mLevel (mLift (mLift (mLift f 0 ((k : Int) / 441)) 1 ((k : Int) / 21 % 21)) 2 ((k : Int) % 21))) : lZ f (k + 1) = lZ f k := mSel_n (P := lPr f) (c := lC) (fun q => by
  rcases h with z | z
  · exact z q.1
  · exact z q.2)
def s_lift (A : qA) (w : Int) : Int × qA := (if A.1 0 = 1 then (if -1 ≤ w ∧ w ≤ 2 then (if (lZ A.1 9261).1 = -1000000 then -1000000 else if w = -1 then (lZ A.1 9261).2 else lw (lZ A.1 9261).1 w) else -1000001) else -1000002, A)
def mFst (P : Int → Prop) [DecidablePred P] : Nat → Nat → Int
  | 0, _ => -1000000
  | m + 1, k => if P k then (k : Int) else mFst P m (k + 1)
theorem mFst_none {P : Int → Prop} [DecidablePred P] (h : ∀ c, ¬ P c) : ∀ m k, mFst P m k = -1000000
  | 0, _ => rfl
  | m + 1, k => by unfold mFst; rw [if_neg (h _)]; exact mFst_none h m (k + 1)
theorem mFst_in (P : Int → Prop) [DecidablePred P] : ∀ m k : Nat, mFst P m k = -1000000 ∨ (k ≤ mFst P m k ∧ mFst P m k < k + m ∧ P (mFst P m k))
  | 0, _ => Or.inl rfl
  | m + 1, k => by
    unfold mFst
    by_cases c : P k
    · rw [if_pos c]; exact Or.inr ⟨by omega, by omega, c⟩
    · rw [if_neg c]
      rcases mFst_in P m (k + 1) with q | q
      · exact Or.inl q
      · exact Or.inr ⟨by omega, by omega, q.2.2⟩
abbrev nP (f : Int → Int) (a b : Int) (c : Int) : Prop := mLevel (mLift (mLift (mLift f 0 a) 1 b) 2 c)
theorem lZ_rest {f : Int → Int} {a b : Nat} (ha : a < 21) (hb : b < 21) : ∀ m c : Nat, m + c = 21 → (lZ f (21 * (21 * a + b) + c)).1 ≠ -1000000 → (lZ f (21 * (21 * a + b) + c)).2 < (a : Int) + b + c → lZ f (21 * (21 * a + b) + 21) = lZ f (21 * (21 * a + b) + c)
  | 0, c, hc, _, _ => by rw [show c = 21 by omega]
  | m + 1, c, hc, h1, h2 => by
    have e : lZ f (21 * (21 * a + b) + c + 1) = lZ f (21 * (21 * a + b) + c) := lZ_n (Or.inl (by push_cast; omega))
    rw [lZ_rest ha hb m (c + 1) (by omega) (by rw [← Nat.add_assoc, e]; exact h1) (by rw [← Nat.add_assoc, e]; push_cast; omega), ← Nat.add_assoc, e]
theorem lZ_blk {f : Int → Int} {a b : Nat} (ha : a < 21) (hb : b < 21) : ∀ m c : Nat, m + c = 21 → lZ f (21 * (21 * a + b) + c) = lZ f (21 * (21 * a + b)) → lZ f (21 * (21 * a + b) + 21) = if mFst (nP f a b) m c = -1000000 then lZ f (21 * (21 * a + b)) else if (lZ f (21 * (21 * a + b))).1 = -1000000 ∨ (a : Int) + b + mFst (nP f a b) m c < (lZ f (21 * (21 * a + b))).2 then (21 * (21 * (a : Int) + b) + mFst (nP f a b) m c, (a : Int) + b + mFst (nP f a b) m c) else lZ f (21 * (21 * a + b))
  | 0, c, hc, h1 => by
    have hc' : c = 21 := by omega
    subst hc'
    rw [h1]
    exact (if_pos rfl).symm
  | m + 1, c, hc, h1 => by
    have e1 : ((21 * (21 * a + b) + c : Nat) : Int) / 441 = a := by push_cast; omega
    have e2 : ((21 * (21 * a + b) + c : Nat) : Int) / 21 % 21 = b := by push_cast; omega
    have e3 : ((21 * (21 * a + b) + c : Nat) : Int) % 21 = c := by push_cast; omega
    by_cases c1 : nP f a b c
    · have e : mFst (nP f a b) (m + 1) c = c := if_pos c1
      rw [e, if_neg (by omega)]
      by_cases c2 : (lZ f (21 * (21 * a + b))).1 = -1000000 ∨ (a : Int) + b + c < (lZ f (21 * (21 * a + b))).2
      · rw [if_pos c2]
        have y := lZ_y (f := f) (k := 21 * (21 * a + b) + c) (by rw [h1, e1, e2, e3]; exact c2) (by rw [e1, e2, e3]; exact c1)
        rw [e1, e2, e3] at y
        rw [lZ_rest ha hb m (c + 1) (by omega) (by rw [← Nat.add_assoc, y]; simp only; omega) (by rw [← Nat.add_assoc, y]; push_cast; omega), ← Nat.add_assoc, y]
        push_cast
        rfl
      · rw [if_neg c2]
        have y := lZ_n (f := f) (k := 21 * (21 * a + b) + c) (Or.inl (by rw [h1, e1, e2, e3]; exact c2))
        rw [lZ_rest ha hb m (c + 1) (by omega) (by rw [← Nat.add_assoc, y, h1]; omega) (by rw [← Nat.add_assoc, y, h1]; push_cast; omega), ← Nat.add_assoc, y, h1]
    · have e : mFst (nP f a b) (m + 1) c = mFst (nP f a b) m (c + 1) := if_neg c1
      have y := lZ_n (f := f) (k := 21 * (21 * a + b) + c) (Or.inr (by rw [e1, e2, e3]; exact c1))
      rw [e]
      exact lZ_blk ha hb m (c + 1) (by omega) (by rw [← Nat.add_assoc, y, h1])
section T2
variable {G : qGl} {d : Nat} {σ : qM} {A : qA} {f g : Int → Int}
theorem x_nose_l {a b : Int} (hs0 : SiR σ 15 f) (hR : Row f) (h1 : f 0 = 1) (hS0 : StR σ 47 (mLift (mLift f 0 a) 1 b)) : ∀ (m c : Nat) (σ' : qM), m + c = 21 → Fr σ σ' [53, 54] → qE G mX2_leastNoseLift (d + 4) 2 [(2, vi c), (0, vr 46), (1, vr 15)] [] σ' (ri fun r σ1 => mFst (nP f a b) m c = r ∧ Fr σ σ1 [53, 54]) := by
  have hO : mOk (mLift (mLift f 0 a) 1 b) := mLift_ok (mLift_ok hR.1 (by omega) (by omega)) (by omega) (by omega)
  intro m
  induction m with
  | zero =>
    intro c σ' hc hF
    refine q_iload_n (pc := 2) dX2_leastNoseLift_2 rfl ?_
    refine q_bipush (pc := 3) dX2_leastNoseLift_3 (by decide +kernel) ?_
    refine q_icmpgt (pc := 5) (tgt := 47) dX2_leastNoseLift_5 (by decide) (by omega) (by omega) (fun h5 => ?_) (fun h => absurd h (by omega))
    refine q_ldc (pc := 47) (n := -1000000) kX2_69 dX2_leastNoseLift_47 ?_
    refine q_ri (pc := 49) dX2_leastNoseLift_49 rfl ?_
    exact ⟨rfl, hF⟩
  | succ m ih =>
    intro c σ' hc hF
    have hs := hs0.fr hF (fun j a b => by simp; omega)
    have hS := hS0.fr hF (by simp) (by simp)
    refine q_iload_n (pc := 2) dX2_leastNoseLift_2 rfl ?_
    refine q_bipush (pc := 3) dX2_leastNoseLift_3 (by decide +kernel) ?_
    refine q_icmpgt (pc := 5) (tgt := 47) dX2_leastNoseLift_5 (by decide) (by omega) (by omega) (fun h => absurd h (by omega)) (fun h5 => ?_)
    refine q_aload_n (pc := 8) dX2_leastNoseLift_8 rfl ?_
    refine q_getR (pc := 9) dX2_leastNoseLift_9 fX2_25 rfl rfl ?_
    refine q_aload_n (pc := 12) dX2_leastNoseLift_12 rfl ?_
    refine q_getR (pc := 13) dX2_leastNoseLift_13 fX2_12 rfl rfl ?_
    refine q_V1v (pc := 16) dX2_leastNoseLift_16 vX2_42 rfl rfl (Nat.le_of_ble_eq_true rfl) (Nat.le_of_ble_eq_true rfl) (t_X5_copyFrom st52 st47 hS) (fun σ1 hc1 => ?_)
    obtain ⟨hF1, hS1⟩ := hc1
    refine q_aload_n (pc := 19) dX2_leastNoseLift_19 rfl ?_
    refine q_getR (pc := 20) dX2_leastNoseLift_20 fX2_25 rfl rfl ?_
    refine q_iconst (pc := 23) dX2_leastNoseLift_23 ?_
    refine q_iload_n (pc := 24) dX2_leastNoseLift_24 rfl ?_
    refine q_V2v (pc := 25) dX2_leastNoseLift_25 vX2_110 rfl rfl (Nat.le_of_ble_eq_true rfl) (Nat.le_of_ble_eq_true rfl) (t_X5_shift' st52 hS1 hO (by omega) (by omega) (by omega)) (fun σ2 hc2 => ?_)
    obtain ⟨hF2, hS2, hO2⟩ := hc2
    refine q_aload_n (pc := 28) dX2_leastNoseLift_28 rfl ?_
    refine q_aload_n (pc := 29) dX2_leastNoseLift_29 rfl ?_
    refine q_getR (pc := 30) dX2_leastNoseLift_30 fX2_25 rfl rfl ?_
    refine q_V1i (pc := 33) dX2_leastNoseLift_33 vX2_57 rfl rfl (Nat.le_of_ble_eq_true rfl) (Nat.le_of_ble_eq_true rfl) (t_X4_isLevel si15 st52 (hs.fr (S := [53, 54]) ((hF1.wk (by simp)).tt (hF2.wk (by simp))) (fun j a b => by simp; omega)) hR h1 hS2 hO2 ⟨rfl, rfl⟩) (fun r3 σ3 hc3 => ?_)
    obtain ⟨rfl, rfl⟩ := hc3
    refine q_ifeqb (pc := 36) (tgt := 41) dX2_leastNoseLift_36 (by decide) (fun h36 => ?_) (fun h36 => ?_)
    · refine q_iinc (pc := 41) dX2_leastNoseLift_41 rfl (Nat.le_of_ble_eq_true rfl) ?_
      refine q_goto (pc := 44) (tgt := 2) dX2_leastNoseLift_44 (by decide) ?_
      have e : mFst (nP f a b) (m + 1) c = mFst (nP f a b) m (c + 1) := if_neg (by assumption)
      rw [e]
      exact q_locs _ [0, 1, 2] rfl (ih (c + 1) σ2 (by omega) (hF.tt ((hF1.wk (by simp)).tt (hF2.wk (by simp)))))
    · refine q_iload_n (pc := 39) dX2_leastNoseLift_39 rfl ?_
      refine q_ri (pc := 40) dX2_leastNoseLift_40 rfl ?_
      exact ⟨if_pos (by assumption), hF.tt ((hF1.wk (by simp)).tt (hF2.wk (by simp)))⟩
theorem x_nose {a b : Int} (hs0 : SiR σ 15 f) (hR : Row f) (h1 : f 0 = 1) (hS0 : StR σ 47 (mLift (mLift f 0 a) 1 b)) : qE G mX2_leastNoseLift (d + 4) 0 [(0, vr 46), (1, vr 15)] [] σ (ri fun r σ1 => mFst (nP f a b) 21 0 = r ∧ Fr σ σ1 [53, 54]) := by
  refine q_iconst (pc := 0) dX2_leastNoseLift_0 ?_
  refine q_istore_n (pc := 1) dX2_leastNoseLift_1 (Nat.le_of_ble_eq_true rfl) ?_
  exact x_nose_l hs0 hR h1 hS0 21 0 σ rfl Fr.rf
abbrev lI (σ : qM) (f : Int → Int) (σ' : qM) (K : Nat) : Prop := Fr σ σ' sF ∧ ((lZ f K).1 ≠ -1000000 → ∀ w, 0 ≤ w → w ≤ 2 → σ' 51 w = lw (lZ f K).1 w)
theorem x_lift_in {a : Nat} {Q : Option qV → qM → Prop} (hs0 : SiR σ 15 f) (hR : Row f) (h1 : f 0 = 1) (ha : a < 21) (kk : ∀ σ1 x, lI σ f σ1 (21 * (21 * a + 21)) → qE G mX2_leastLifting (d + 5) 118 [(4, vi x), (3, vi a), (2, vi (lZ f (21 * (21 * a + 21))).2), (0, vr 46), (1, vr 15)] [] σ1 Q) : ∀ (m b : Nat) (σ' : qM), m + b = 21 → lI σ f σ' (21 * (21 * a + b)) → qE G mX2_leastLifting (d + 5) 14 [(4, vi b), (3, vi a), (2, vi (lZ f (21 * (21 * a + b))).2), (0, vr 46), (1, vr 15)] [] σ' Q := by
  intro m
  induction m with
  | zero =>
    intro b σ' hb hI
    rw [show b = 21 by omega] at hI ⊢
    refine q_iload (pc := 14) dX2_leastLifting_14 rfl ?_
    refine q_bipush (pc := 16) dX2_leastLifting_16 (by decide +kernel) ?_
    refine q_icmpgt (pc := 18) (tgt := 118) dX2_leastLifting_18 (by decide) (by omega) (by omega) (fun h18 => ?_) (fun h => absurd h (by omega))
    exact kk σ' _ hI
  | succ m ih =>
    intro b σ' hb hI
    obtain ⟨hF, hw⟩ := hI
    have hs := hs0.fr hF (fun j a b => by simp; omega)
    have hS : StR σ' 19 f := hs.2.2.1
    have hO := hR.1
    have hl := hR.law h1
    have e1 := (hs.2.1 h1).1
    have hin := lZ_in f (21 * (21 * a + b))
    have hblk := lZ_blk (f := f) ha (show b < 21 by omega) 21 0 rfl rfl
    have hfst := mFst_in (nP f a b) 21 0
    rw [show 21 * (21 * a + b) + 21 = 21 * (21 * a + (b + 1)) by omega] at hblk
    refine q_iload (pc := 14) dX2_leastLifting_14 rfl ?_
    refine q_bipush (pc := 16) dX2_leastLifting_16 (by decide +kernel) ?_
    refine q_icmpgt (pc := 18) (tgt := 118) dX2_leastLifting_18 (by decide) (by omega) (by omega) (fun h => absurd h (by omega)) (fun h18 => ?_)
    refine q_aload_n (pc := 21) dX2_leastLifting_21 rfl ?_
    refine q_getR (pc := 22) dX2_leastLifting_22 fX2_12 rfl rfl ?_
    refine q_aload_n (pc := 25) dX2_leastLifting_25 rfl ?_
    refine q_getR (pc := 26) dX2_leastLifting_26 fX2_50 rfl rfl ?_
    refine q_V1v (pc := 29) dX2_leastLifting_29 vX2_42 rfl rfl (Nat.le_of_ble_eq_true rfl) (Nat.le_of_ble_eq_true rfl) (t_X5_copyFrom st47 st19 hS) (fun σ1 hc1 => ?_)
    obtain ⟨hF1, hS1⟩ := hc1
    refine q_aload_n (pc := 32) dX2_leastLifting_32 rfl ?_
    refine q_getR (pc := 33) dX2_leastLifting_33 fX2_12 rfl rfl ?_
    refine q_iconst (pc := 36) dX2_leastLifting_36 ?_
    refine q_iload_n (pc := 37) dX2_leastLifting_37 rfl ?_
    refine q_V2v (pc := 38) dX2_leastLifting_38 vX2_110 rfl rfl (Nat.le_of_ble_eq_true rfl) (Nat.le_of_ble_eq_true rfl) (t_X5_shift' st47 hS1 hO (by omega) (by omega) (by omega)) (fun σ2 hc2 => ?_)
    obtain ⟨hF2, hS2, hO2⟩ := hc2
    refine q_aload_n (pc := 41) dX2_leastLifting_41 rfl ?_
    refine q_getR (pc := 42) dX2_leastLifting_42 fX2_12 rfl rfl ?_
    refine q_iconst (pc := 45) dX2_leastLifting_45 ?_
    refine q_iload (pc := 46) dX2_leastLifting_46 rfl ?_
    refine q_V2v (pc := 48) dX2_leastLifting_48 vX2_110 rfl rfl (Nat.le_of_ble_eq_true rfl) (Nat.le_of_ble_eq_true rfl) (t_X5_shift' st47 hS2 hO2 (by omega) (by omega) (by omega)) (fun σ3 hc3 => ?_)
    obtain ⟨hF3, hS3, hO3⟩ := hc3
    have hFx : Fr σ' σ3 sF := ((hF1.wk (by simp)).tt (hF2.wk (by simp))).tt (hF3.wk (by simp))
    have hFx51 : σ3 51 = σ' 51 := by rw [hF3 51 (by simp), hF2 51 (by simp), hF1 51 (by simp)]
    have es : σ3 15 = σ' 15 := by rw [hF3 15 (by simp), hF2 15 (by simp), hF1 15 (by simp)]
    have e1' : σ3 15 1 = f 1 := by rw [es]; exact e1
    have hside := mLift_ok hO2 (i := 1) (b := b) (by omega) (by omega)
    have hsd : -99 ≤ mSide (mLift (mLift f 0 a) 1 b) ∧ mSide (mLift (mLift f 0 a) 1 b) ≤ 99 := by
      unfold mSide
      have := hside.1
      have := hside.2.1
      omega
    refine q_aload_n (pc := 51) dX2_leastLifting_51 rfl ?_
    refine q_getR (pc := 52) dX2_leastLifting_52 fX2_12 rfl rfl ?_
    refine q_V0i (pc := 55) dX2_leastLifting_55 vX2_113 rfl rfl (Nat.le_of_ble_eq_true rfl) (Nat.le_of_ble_eq_true rfl) (t_X5_side st47 hS3) (fun r4 σ4 hc4 => ?_)
    obtain ⟨rfl, rfl⟩ := hc4
    refine q_abs (pc := 58) dX2_leastLifting_58 vX2_116 v_abs1 v_im v_abs2 (by omega) (Nat.le_of_ble_eq_true rfl) (by omega) ?_
    refine q_aload_n (pc := 61) dX2_leastLifting_61 rfl ?_
    refine q_gI (pc := 62) 1 dX2_leastLifting_62 fX2_121 rfl rfl rfl ?_
    refine q_icmple (pc := 65) (tgt := 71) dX2_leastLifting_65 (by decide) (by omega) (by omega) (fun h65 => ?_) (fun h65 => ?_)
    · refine q_aload_n (pc := 71) dX2_leastLifting_71 rfl ?_
      refine q_aload_n (pc := 72) dX2_leastLifting_72 rfl ?_
      refine q_V1i (pc := 73) dX2_leastLifting_73 vX2_124 rfl rfl (Nat.le_of_ble_eq_true rfl) (Nat.le_of_ble_eq_true rfl) (x_nose (hs.fr hFx (fun j a b => by simp; omega)) hR h1 hS3) (fun r5 σ5 hc5 => ?_)
      obtain ⟨rfl, hF5⟩ := hc5
      refine q_istore (pc := 76) dX2_leastLifting_76 (Nat.le_of_ble_eq_true rfl) ?_
      refine q_iload (pc := 78) dX2_leastLifting_78 rfl ?_
      refine q_ldc (pc := 80) (n := -1000000) kX2_69 dX2_leastLifting_80 ?_
      refine q_icmpeq (pc := 82) (tgt := 112) dX2_leastLifting_82 (by decide) (by omega) (by omega) (fun h82 => ?_) (fun h82 => ?_)
      · refine q_iinc (pc := 112) dX2_leastLifting_112 rfl (Nat.le_of_ble_eq_true rfl) ?_
        refine q_goto (pc := 115) (tgt := 14) dX2_leastLifting_115 (by decide) ?_
        first
        | (have q0 : mFst (nP f a b) 21 0 = -1000000 := mFst_none (fun c z => by
             have z1 : mOff (mSide (mLift (mLift f 0 a) 1 b)) ≤ f 1 := z.1
             unfold mOff at z1
             split at z1 <;> (split at h65 <;> omega)) 21 0
           rw [if_pos q0] at hblk
           have q := ih (b + 1) σ3 (by omega) ⟨hF.tt hFx, by rw [hblk, hFx51]; exact hw⟩
           rw [hblk] at q
           exact q_locs _ [0, 2, 3, 4, 5] rfl q)
        | (rw [if_pos (by assumption)] at hblk
           have q := ih (b + 1) σ5 (by omega) ⟨(hF.tt hFx).tt (hF5.wk (by simp)), by rw [hblk, hF5 51 (by simp), hFx51]; exact hw⟩
           rw [hblk] at q
           exact q_locs _ [0, 2, 3, 4, 5] rfl q)
        | (rw [if_neg (by assumption), if_neg (by omega)] at hblk
           have q := ih (b + 1) σ5 (by omega) ⟨(hF.tt hFx).tt (hF5.wk (by simp)), by rw [hblk, hF5 51 (by simp), hFx51]; exact hw⟩
           rw [hblk] at q
           exact q_locs _ [0, 2, 3, 4, 5] rfl q)
        | (rw [if_neg (by assumption), if_pos (by omega)] at hblk
           have q := ih (b + 1) σ5 (by omega) ⟨((hF.tt hFx).tt (hF5.wk (by simp))).tt (hF5.wk (by simp)), by
             rw [hblk]
             intro _ w x y
             rcases (show w = 0 ∨ w = 1 ∨ w = 2 by omega) with rfl | rfl | rfl
             · rw [hsh5.1]; show (a : Int) = (21 * (21 * (a : Int) + b) + mFst (nP f a b) 21 0) / 441; omega
             · rw [hsh5.2.1]; show (b : Int) = (21 * (21 * (a : Int) + b) + mFst (nP f a b) 21 0) / 21 % 21; omega
             · rw [hsh5.2.2]; show mFst (nP f a b) 21 0 = (21 * (21 * (a : Int) + b) + mFst (nP f a b) 21 0) % 21; omega⟩
           rw [hblk] at q
           exact q_locs _ [0, 2, 3, 4, 5] rfl q)
      · refine q_iload_n (pc := 85) dX2_leastLifting_85 rfl ?_
        refine q_ldc (pc := 86) (n := -1000000) kX2_69 dX2_leastLifting_86 ?_
        refine q_icmpeq (pc := 88) (tgt := 102) dX2_leastLifting_88 (by decide) (by omega) (by omega) (fun h88 => ?_) (fun h88 => ?_)
        · refine q_aload_n (pc := 102) dX2_leastLifting_102 rfl ?_
          refine q_iload_n (pc := 103) dX2_leastLifting_103 rfl ?_
          refine q_iload (pc := 104) dX2_leastLifting_104 rfl ?_
          refine q_iload (pc := 106) dX2_leastLifting_106 rfl ?_
          refine q_V3i (pc := 108) dX2_leastLifting_108 vX2_106 rfl rfl (Nat.le_of_ble_eq_true rfl) (Nat.le_of_ble_eq_true rfl) (x_share) (fun r6 σ6 hc6 => ?_)
          obtain ⟨rfl, hF6, hsh6⟩ := hc6
          refine q_istore_n (pc := 111) dX2_leastLifting_111 (Nat.le_of_ble_eq_true rfl) ?_
          refine q_iinc (pc := 112) dX2_leastLifting_112 rfl (Nat.le_of_ble_eq_true rfl) ?_
          refine q_goto (pc := 115) (tgt := 14) dX2_leastLifting_115 (by decide) ?_
          first
          | (have q0 : mFst (nP f a b) 21 0 = -1000000 := mFst_none (fun c z => by
               have z1 : mOff (mSide (mLift (mLift f 0 a) 1 b)) ≤ f 1 := z.1
               unfold mOff at z1
               split at z1 <;> (split at h65 <;> omega)) 21 0
             rw [if_pos q0] at hblk
             have q := ih (b + 1) σ3 (by omega) ⟨hF.tt hFx, by rw [hblk, hFx51]; exact hw⟩
             rw [hblk] at q
             exact q_locs _ [0, 3, 1, 4, 5] rfl q)
          | (rw [if_pos (by assumption)] at hblk
             have q := ih (b + 1) σ6 (by omega) ⟨(hF.tt hFx).tt (hF6.wk (by simp)), by rw [hblk, hF6 51 (by simp), hFx51]; exact hw⟩
             rw [hblk] at q
             exact q_locs _ [0, 3, 1, 4, 5] rfl q)
          | (rw [if_neg (by assumption), if_neg (by omega)] at hblk
             have q := ih (b + 1) σ6 (by omega) ⟨(hF.tt hFx).tt (hF6.wk (by simp)), by rw [hblk, hF6 51 (by simp), hFx51]; exact hw⟩
             rw [hblk] at q
             exact q_locs _ [0, 3, 1, 4, 5] rfl q)
          | (rw [if_neg (by assumption), if_pos (by omega)] at hblk
             have q := ih (b + 1) σ6 (by omega) ⟨((hF.tt hFx).tt (hF5.wk (by simp))).tt (hF6.wk (by simp)), by
               rw [hblk]
               intro _ w x y
               rcases (show w = 0 ∨ w = 1 ∨ w = 2 by omega) with rfl | rfl | rfl
               · rw [hsh6.1]; show (a : Int) = (21 * (21 * (a : Int) + b) + mFst (nP f a b) 21 0) / 441; omega
               · rw [hsh6.2.1]; show (b : Int) = (21 * (21 * (a : Int) + b) + mFst (nP f a b) 21 0) / 21 % 21; omega
               · rw [hsh6.2.2]; show mFst (nP f a b) 21 0 = (21 * (21 * (a : Int) + b) + mFst (nP f a b) 21 0) % 21; omega⟩
             rw [hblk] at q
             exact q_locs _ [0, 3, 1, 4, 5] rfl q)
        · refine q_iload_n (pc := 91) dX2_leastLifting_91 rfl ?_
          refine q_iload (pc := 92) dX2_leastLifting_92 rfl ?_
          refine q_iadd (pc := 94) dX2_leastLifting_94 ?_
          refine q_iload (pc := 95) dX2_leastLifting_95 rfl ?_
          refine q_iadd (pc := 97) dX2_leastLifting_97 ?_
          refine q_iload_n (pc := 98) dX2_leastLifting_98 rfl ?_
          refine q_icmpge (pc := 99) (tgt := 112) dX2_leastLifting_99 (by decide) (by omega) (by omega) (fun h99 => ?_) (fun h99 => ?_)
          · refine q_iinc (pc := 112) dX2_leastLifting_112 rfl (Nat.le_of_ble_eq_true rfl) ?_
            refine q_goto (pc := 115) (tgt := 14) dX2_leastLifting_115 (by decide) ?_
            first
            | (have q0 : mFst (nP f a b) 21 0 = -1000000 := mFst_none (fun c z => by
                 have z1 : mOff (mSide (mLift (mLift f 0 a) 1 b)) ≤ f 1 := z.1
                 unfold mOff at z1
                 split at z1 <;> (split at h65 <;> omega)) 21 0
               rw [if_pos q0] at hblk
               have q := ih (b + 1) σ3 (by omega) ⟨hF.tt hFx, by rw [hblk, hFx51]; exact hw⟩
               rw [hblk] at q
               exact q_locs _ [0, 2, 3, 4, 5] rfl q)
            | (rw [if_pos (by assumption)] at hblk
               have q := ih (b + 1) σ5 (by omega) ⟨(hF.tt hFx).tt (hF5.wk (by simp)), by rw [hblk, hF5 51 (by simp), hFx51]; exact hw⟩
               rw [hblk] at q
               exact q_locs _ [0, 2, 3, 4, 5] rfl q)
            | (rw [if_neg (by assumption), if_neg (by omega)] at hblk
               have q := ih (b + 1) σ5 (by omega) ⟨(hF.tt hFx).tt (hF5.wk (by simp)), by rw [hblk, hF5 51 (by simp), hFx51]; exact hw⟩
               rw [hblk] at q
               exact q_locs _ [0, 2, 3, 4, 5] rfl q)
            | (rw [if_neg (by assumption), if_pos (by omega)] at hblk
               have q := ih (b + 1) σ5 (by omega) ⟨((hF.tt hFx).tt (hF5.wk (by simp))).tt (hF5.wk (by simp)), by
                 rw [hblk]
                 intro _ w x y
                 rcases (show w = 0 ∨ w = 1 ∨ w = 2 by omega) with rfl | rfl | rfl
                 · rw [hsh5.1]; show (a : Int) = (21 * (21 * (a : Int) + b) + mFst (nP f a b) 21 0) / 441; omega
                 · rw [hsh5.2.1]; show (b : Int) = (21 * (21 * (a : Int) + b) + mFst (nP f a b) 21 0) / 21 % 21; omega
                 · rw [hsh5.2.2]; show mFst (nP f a b) 21 0 = (21 * (21 * (a : Int) + b) + mFst (nP f a b) 21 0) % 21; omega⟩
               rw [hblk] at q
               exact q_locs _ [0, 2, 3, 4, 5] rfl q)
          · refine q_aload_n (pc := 102) dX2_leastLifting_102 rfl ?_
            refine q_iload_n (pc := 103) dX2_leastLifting_103 rfl ?_
            refine q_iload (pc := 104) dX2_leastLifting_104 rfl ?_
            refine q_iload (pc := 106) dX2_leastLifting_106 rfl ?_
            refine q_V3i (pc := 108) dX2_leastLifting_108 vX2_106 rfl rfl (Nat.le_of_ble_eq_true rfl) (Nat.le_of_ble_eq_true rfl) (x_share) (fun r7 σ7 hc7 => ?_)
            obtain ⟨rfl, hF7, hsh7⟩ := hc7
            refine q_istore_n (pc := 111) dX2_leastLifting_111 (Nat.le_of_ble_eq_true rfl) ?_
            refine q_iinc (pc := 112) dX2_leastLifting_112 rfl (Nat.le_of_ble_eq_true rfl) ?_
            refine q_goto (pc := 115) (tgt := 14) dX2_leastLifting_115 (by decide) ?_
            first
            | (have q0 : mFst (nP f a b) 21 0 = -1000000 := mFst_none (fun c z => by
                 have z1 : mOff (mSide (mLift (mLift f 0 a) 1 b)) ≤ f 1 := z.1
                 unfold mOff at z1
                 split at z1 <;> (split at h65 <;> omega)) 21 0
               rw [if_pos q0] at hblk
               have q := ih (b + 1) σ3 (by omega) ⟨hF.tt hFx, by rw [hblk, hFx51]; exact hw⟩
               rw [hblk] at q
               exact q_locs _ [0, 3, 1, 4, 5] rfl q)
            | (rw [if_pos (by assumption)] at hblk
               have q := ih (b + 1) σ7 (by omega) ⟨(hF.tt hFx).tt (hF7.wk (by simp)), by rw [hblk, hF7 51 (by simp), hFx51]; exact hw⟩
               rw [hblk] at q
               exact q_locs _ [0, 3, 1, 4, 5] rfl q)
            | (rw [if_neg (by assumption), if_neg (by omega)] at hblk
               have q := ih (b + 1) σ7 (by omega) ⟨(hF.tt hFx).tt (hF7.wk (by simp)), by rw [hblk, hF7 51 (by simp), hFx51]; exact hw⟩
               rw [hblk] at q
               exact q_locs _ [0, 3, 1, 4, 5] rfl q)
            | (rw [if_neg (by assumption), if_pos (by omega)] at hblk
               have q := ih (b + 1) σ7 (by omega) ⟨((hF.tt hFx).tt (hF5.wk (by simp))).tt (hF7.wk (by simp)), by
                 rw [hblk]
                 intro _ w x y
                 rcases (show w = 0 ∨ w = 1 ∨ w = 2 by omega) with rfl | rfl | rfl
                 · rw [hsh7.1]; show (a : Int) = (21 * (21 * (a : Int) + b) + mFst (nP f a b) 21 0) / 441; omega
                 · rw [hsh7.2.1]; show (b : Int) = (21 * (21 * (a : Int) + b) + mFst (nP f a b) 21 0) / 21 % 21; omega
                 · rw [hsh7.2.2]; show mFst (nP f a b) 21 0 = (21 * (21 * (a : Int) + b) + mFst (nP f a b) 21 0) % 21; omega⟩
               rw [hblk] at q
               exact q_locs _ [0, 3, 1, 4, 5] rfl q)
    · refine q_goto (pc := 68) (tgt := 112) dX2_leastLifting_68 (by decide) ?_
      refine q_iinc (pc := 112) dX2_leastLifting_112 rfl (Nat.le_of_ble_eq_true rfl) ?_
      refine q_goto (pc := 115) (tgt := 14) dX2_leastLifting_115 (by decide) ?_
      first
      | (have q0 : mFst (nP f a b) 21 0 = -1000000 := mFst_none (fun c z => by
           have z1 : mOff (mSide (mLift (mLift f 0 a) 1 b)) ≤ f 1 := z.1
           unfold mOff at z1
           split at z1 <;> (split at h65 <;> omega)) 21 0
         rw [if_pos q0] at hblk
         have q := ih (b + 1) σ3 (by omega) ⟨hF.tt hFx, by rw [hblk, hFx51]; exact hw⟩
         rw [hblk] at q
         exact q_locs _ [0, 1, 2, 3, 4] rfl q)
      | (rw [if_pos (by assumption)] at hblk
         have q := ih (b + 1) σ4 (by omega) ⟨(hF.tt hFx).tt (hF4.wk (by simp)), by rw [hblk, hF4 51 (by simp), hFx51]; exact hw⟩
         rw [hblk] at q
         exact q_locs _ [0, 1, 2, 3, 4] rfl q)
      | (rw [if_neg (by assumption), if_neg (by omega)] at hblk
         have q := ih (b + 1) σ4 (by omega) ⟨(hF.tt hFx).tt (hF4.wk (by simp)), by rw [hblk, hF4 51 (by simp), hFx51]; exact hw⟩
         rw [hblk] at q
         exact q_locs _ [0, 1, 2, 3, 4] rfl q)
      | (rw [if_neg (by assumption), if_pos (by omega)] at hblk
         have q := ih (b + 1) σ4 (by omega) ⟨((hF.tt hFx).tt (hF0.wk (by simp))).tt (hF4.wk (by simp)), by
           rw [hblk]
           intro _ w x y
           rcases (show w = 0 ∨ w = 1 ∨ w = 2 by omega) with rfl | rfl | rfl
           · rw [hsh4.1]; show (a : Int) = (21 * (21 * (a : Int) + b) + mFst (nP f a b) 21 0) / 441; omega
           · rw [hsh4.2.1]; show (b : Int) = (21 * (21 * (a : Int) + b) + mFst (nP f a b) 21 0) / 21 % 21; omega
           · rw [hsh4.2.2]; show mFst (nP f a b) 21 0 = (21 * (21 * (a : Int) + b) + mFst (nP f a b) 21 0) % 21; omega⟩
         rw [hblk] at q
         exact q_locs _ [0, 1, 2, 3, 4] rfl q)
theorem x_lift_out (hs0 : SiR σ 15 f) (hR : Row f) (h1 : f 0 = 1) : ∀ (m a : Nat) (σ' : qM), m + a = 21 → lI σ f σ' (441 * a) → qE G mX2_leastLifting (d + 5) 5 [(3, vi a), (2, vi (lZ f (441 * a)).2), (0, vr 46), (1, vr 15)] [] σ' (ri fun r σ1 => (lZ f 9261).2 = r ∧ lI σ f σ1 9261) := by
  intro m
  induction m with
  | zero =>
    intro a σ' ha hI
    rw [show 441 * a = 9261 by omega] at hI ⊢
    refine q_iload_n (pc := 5) dX2_leastLifting_5 rfl ?_
    refine q_bipush (pc := 6) dX2_leastLifting_6 (by decide +kernel) ?_
    refine q_icmpgt (pc := 8) (tgt := 124) dX2_leastLifting_8 (by decide) (by omega) (by omega) (fun h8 => ?_) (fun h => absurd h (by omega))
    refine q_iload_n (pc := 124) dX2_leastLifting_124 rfl ?_
    refine q_ri (pc := 125) dX2_leastLifting_125 rfl ?_
    exact ⟨rfl, hI⟩
  | succ m ih =>
    intro a σ' ha hI
    rw [show 441 * a = 21 * (21 * a + 0) by omega] at hI ⊢
    have kk : ∀ σ1 x, lI σ f σ1 (21 * (21 * a + 21)) → qE G mX2_leastLifting (d + 5) 118 [(4, vi x), (3, vi a), (2, vi (lZ f (21 * (21 * a + 21))).2), (0, vr 46), (1, vr 15)] [] σ1 (ri fun r σ1 => (lZ f 9261).2 = r ∧ lI σ f σ1 9261) := by
      intro σ1 x hI1
      rw [show 21 * (21 * a + 21) = 441 * (a + 1) by omega] at hI1 ⊢
      refine q_iinc (pc := 118) dX2_leastLifting_118 rfl (Nat.le_of_ble_eq_true rfl) ?_
      refine q_goto (pc := 121) (tgt := 5) dX2_leastLifting_121 (by decide) ?_
      exact q_locs _ [0, 2, 3, 4] rfl (ih (a + 1) σ1 (by omega) hI1)
    refine q_iload_n (pc := 5) dX2_leastLifting_5 rfl ?_
    refine q_bipush (pc := 6) dX2_leastLifting_6 (by decide +kernel) ?_
    refine q_icmpgt (pc := 8) (tgt := 124) dX2_leastLifting_8 (by decide) (by omega) (by omega) (fun h => absurd h (by omega)) (fun h8 => ?_)
    refine q_iconst (pc := 11) dX2_leastLifting_11 ?_
    refine q_istore (pc := 12) dX2_leastLifting_12 (Nat.le_of_ble_eq_true rfl) ?_
    exact x_lift_in hs0 hR h1 (by omega) (fun σ1 x hI1 => kk σ1 x hI1) 21 0 σ' rfl hI
theorem x_least (hs : SiR σ 15 f) (hR : Row f) (h1 : f 0 = 1) : qE G mX2_leastLifting (d + 5) 0 [(0, vr 46), (1, vr 15)] [] σ (ri fun r σ1 => (lZ f 9261).2 = r ∧ lI σ f σ1 9261) := by
  refine q_ldc (pc := 0) (n := -1000000) kX2_69 dX2_leastLifting_0 ?_
  refine q_istore_n (pc := 2) dX2_leastLifting_2 (Nat.le_of_ble_eq_true rfl) ?_
  refine q_iconst (pc := 3) dX2_leastLifting_3 ?_
  refine q_istore_n (pc := 4) dX2_leastLifting_4 (Nat.le_of_ble_eq_true rfl) ?_
  exact x_lift_out hs hR h1 21 0 σ rfl ⟨Fr.rf, fun q => absurd rfl q⟩
theorem x_lift {w : Int} (hC : CR σ A) (hV : AV A) (hw : -2147483648 ≤ w ∧ w ≤ 2147483647) : qE G mX7_lift (d + 6) 0 [(0, vr 0), (1, vi w)] [] σ (ri (pC σ (s_lift A w))) := by
  have hR := hV.1
  have h01 := hR.f0
  have e0 := hC.1.1.1
  have hin := lZ_in A.1 9261
  refine q_aload_n (pc := 0) dX7_lift_0 rfl ?_
  refine q_getR (pc := 1) dX7_lift_1 fX7_26 rfl rfl ?_
  refine q_gI (pc := 4) 0 dX7_lift_4 fX7_141 rfl rfl rfl ?_
  refine q_ifne (pc := 7) (tgt := 13) dX7_lift_7 (by decide) (by omega) (fun h7 => ?_) (fun h7 => ?_)
  · refine q_iload_n (pc := 13) dX7_lift_13 rfl ?_
    refine q_iconst (pc := 14) dX7_lift_14 ?_
    refine q_icmplt (pc := 15) (tgt := 23) dX7_lift_15 (by decide) (by omega) (by omega) (fun h15 => ?_) (fun h15 => ?_)
    · refine q_ldc (pc := 23) (n := -1000001) kX7_66 dX7_lift_23 ?_
      refine q_ri (pc := 25) dX7_lift_25 rfl ?_
      refine pC.q0 hC ?_
      repeat' (first | rw [if_neg (by omega)] | rw [if_pos (by omega)])
    · refine q_iload_n (pc := 18) dX7_lift_18 rfl ?_
      refine q_iconst (pc := 19) dX7_lift_19 ?_
      refine q_icmplt (pc := 20) (tgt := 26) dX7_lift_20 (by decide) (by omega) (by omega) (fun h20 => ?_) (fun h20 => ?_)
      · refine q_aload_n (pc := 26) dX7_lift_26 rfl ?_
        refine q_getR (pc := 27) dX7_lift_27 fX7_47 rfl rfl ?_
        refine q_aload_n (pc := 30) dX7_lift_30 rfl ?_
        refine q_getR (pc := 31) dX7_lift_31 fX7_26 rfl rfl ?_
        refine q_V1i (pc := 34) dX7_lift_34 vX7_248 rfl rfl (Nat.le_of_ble_eq_true rfl) (Nat.le_of_ble_eq_true rfl) (x_least hC.1 hR (by omega)) (fun r1 σ1 hc1 => ?_)
        obtain ⟨rfl, hF1⟩ := hc1
        refine q_istore_n (pc := 37) dX7_lift_37 (Nat.le_of_ble_eq_true rfl) ?_
        refine q_iload_n (pc := 38) dX7_lift_38 rfl ?_
        refine q_ldc (pc := 39) (n := -1000000) kX7_227 dX7_lift_39 ?_
        refine q_icmpeq (pc := 41) (tgt := 49) dX7_lift_41 (by decide) (by omega) (by omega) (fun h41 => ?_) (fun h41 => ?_)
        · refine q_iload_n (pc := 49) dX7_lift_49 rfl ?_
          refine q_goto (pc := 50) (tgt := 62) dX7_lift_50 (by decide) ?_
          refine q_ri (pc := 62) dX7_lift_62 rfl ?_
          refine pC.q hC hF1.1 (scr_in (by decide)) ?_
          rw [if_pos (by omega), if_pos (by omega)]
          first
          | (rw [if_pos (by omega)]; omega)
          | (rw [if_neg (by omega), if_pos (by omega)])
          | (rw [if_neg (by omega), if_neg (by omega)]; exact (hF1.2 (by omega) w (by omega) (by omega)).symm)
        · refine q_iload_n (pc := 44) dX7_lift_44 rfl ?_
          refine q_iconst (pc := 45) dX7_lift_45 ?_
          refine q_icmpne (pc := 46) (tgt := 53) dX7_lift_46 (by decide) (by omega) (by omega) (fun h46 => ?_) (fun h46 => ?_)
          · refine q_aload_n (pc := 53) dX7_lift_53 rfl ?_
            refine q_getR (pc := 54) dX7_lift_54 fX7_47 rfl rfl ?_
            refine q_getR (pc := 57) dX7_lift_57 fX7_245 rfl rfl ?_
            refine q_iload_n (pc := 60) dX7_lift_60 rfl ?_
            refine q_iald (pc := 61) dX7_lift_61 rfl (by omega) ?_
            refine q_ri (pc := 62) dX7_lift_62 rfl ?_
            refine pC.q hC hF1.1 (scr_in (by decide)) ?_
            rw [if_pos (by omega), if_pos (by omega)]
            first
            | (rw [if_pos (by omega)]; omega)
            | (rw [if_neg (by omega), if_pos (by omega)])
            | (rw [if_neg (by omega), if_neg (by omega)]; exact (hF1.2 (by omega) w (by omega) (by omega)).symm)
          · refine q_iload_n (pc := 49) dX7_lift_49 rfl ?_
            refine q_goto (pc := 50) (tgt := 62) dX7_lift_50 (by decide) ?_
            refine q_ri (pc := 62) dX7_lift_62 rfl ?_
            refine pC.q hC hF1.1 (scr_in (by decide)) ?_
            rw [if_pos (by omega), if_pos (by omega)]
            first
            | (rw [if_pos (by omega)]; omega)
            | (rw [if_neg (by omega), if_pos (by omega)])
            | (rw [if_neg (by omega), if_neg (by omega)]; exact (hF1.2 (by omega) w (by omega) (by omega)).symm)
      · refine q_ldc (pc := 23) (n := -1000001) kX7_66 dX7_lift_23 ?_
        refine q_ri (pc := 25) dX7_lift_25 rfl ?_
        refine pC.q0 hC ?_
        repeat' (first | rw [if_neg (by omega)] | rw [if_pos (by omega)])
  · refine q_ldc (pc := 10) (n := -1000002) kX7_137 dX7_lift_10 ?_
    refine q_ri (pc := 12) dX7_lift_12 rfl ?_
    refine pC.q0 hC ?_
    repeat' (first | rw [if_neg (by omega)] | rw [if_pos (by omega)])
end T2
