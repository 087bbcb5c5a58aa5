/-! ===== plan: how long; the class ===== -/
def pL (n N : Nat) (f : Int → Int) : Nat → Nat → Option (Nat × List Int)
  | 0, _ => none
  | m + 1, L => match mF n N L f with
    | some l => some (L, l)
    | none => pL n N f m (L + 1)
def pAns (w : Int) : Option (Nat × List Int) → Int
  | none => -1000000
  | some (L, l) => if w = -1 then (L : Int) else if w < L then l.getD w.toNat 0 else -1000000
def s_plan (A : qA) (n w : Int) : Int × qA := (if A.1 0 = 1 then (if (0 ≤ n ∧ n ≤ 24) ∧ -1 ≤ w then pAns w (pL n.toNat (A.1 5).toNat A.1 ((A.1 5).toNat + 1) 0) else -1000001) else -1000002, A)
theorem wC_do {g : Int → Int} (hR : Row g) {i : Int} (hi : 0 ≤ i ∧ i < g 5) (hn : ¬ mDone g i) : ∀ m : Nat, (m : Int) ≤ g 5 → wC (mDo g i) m + (if i < m then 1 else 0) = wC g m
  | 0, _ => by rw [if_neg (by omega)]; rfl
  | m + 1, hm => by
    have ih := wC_do hR hi hn m (by omega)
    have q := mDone_2 hR hi (b := m) (by omega)
    unfold wC
    by_cases c : i = m
    · subst c
      rw [if_neg (by omega)] at ih
      rw [if_pos q.1, if_neg hn, if_pos (by omega)]
      omega
    · have q2 := q.2 c
      by_cases c2 : mDone g m
      · rw [if_pos (q2.mpr c2), if_pos c2]
        by_cases c3 : i < m
        · rw [if_pos c3] at ih; rw [if_pos (by omega)]; omega
        · rw [if_neg c3] at ih; rw [if_neg (by omega)]; omega
      · rw [if_neg (fun z => c2 (q2.mp z)), if_neg c2]
        by_cases c3 : i < m
        · rw [if_pos c3] at ih; rw [if_pos (by omega)]; omega
        · rw [if_neg c3] at ih; rw [if_neg (by omega)]; omega
theorem sol_len {n N : Nat} : ∀ (l : List Int) (g : Int → Int), Row g → g 5 = N → sol n N g l → l.length ≤ wC g N
  | [], _, _, _, _ => Nat.zero_le _
  | i :: l, g, hR, hN, hs => by
    obtain ⟨s1, s2, s3⟩ := hs
    have hi : 0 ≤ i ∧ i < g 5 := by omega
    have ih := sol_len l (mDo g i) (mDo_row hR hi.1 hi.2) (by rw [mDo_o hR hi.1 hi.2 (by omega)]; exact hN) s3
    have q := wC_do hR hi s2 N (by omega)
    rw [if_pos (by omega)] at q
    rw [List.length_cons]
    omega
theorem mF_long {n N L : Nat} {g : Int → Int} (hR : Row g) (hN : g 5 = N) (hL : wC g N < L) : mF n N L g = none := by
  cases e : mF n N L g with
  | none => rfl
  | some r =>
    obtain ⟨q1, q2, -⟩ := (mF_spec (n := n) (N := N) L g).2 r e
    have := sol_len r g hR hN q2
    omega
theorem pL_long {n N : Nat} {g : Int → Int} (hR : Row g) (hN : g 5 = N) : ∀ m L : Nat, wC g N < L → pL n N g m L = none
  | 0, _, _ => rfl
  | m + 1, L, hL => by
    unfold pL
    rw [mF_long hR hN hL]
    exact pL_long hR hN m (L + 1) (by omega)
theorem pL_cut {n N : Nat} {g : Int → Int} (hR : Row g) (hN : g 5 = N) : ∀ m k L : Nat, m + L = wC g N + 1 → pL n N g (m + k) L = pL n N g m L
  | 0, k, L, h => by
    rw [pL_long hR hN (0 + k) L (by omega)]
    rfl
  | m + 1, k, L, h => by
    rw [show m + 1 + k = (m + k) + 1 by omega]
    unfold pL
    cases mF n N L g with
    | some l => rfl
    | none => exact pL_cut hR hN m k (L + 1) (by omega)
theorem stp_at : ∀ k : Nat, k < 8 → [some 56, some 59, some 62, some 65, some 68, some 71, some 74, some 77].getD k none = some (56 + 3 * k) := by decide +kernel
theorem stp_st : ∀ k : Nat, k < 8 → qSt (56 + 3 * k) := by unfold qSt; decide +kernel
theorem sh55 : qSh 55 = (3, 8, [some 56, some 59, some 62, some 65, some 68, some 71, some 74, some 77]) := by decide
section T2
variable {G : qGl} {d : Nat} {σ : qM} {A : qA} {f g : Int → Int}
def FF (σ σ1 : qM) (δ : Nat) : Prop := (∀ j : Nat, (j < 50 ∨ j = 51 ∨ j = 52 ∨ (55 ≤ j ∧ j < 59 + 3 * δ) ∨ 80 ≤ j) → σ1 j = σ j) ∧ ∀ k : Int, k < δ → σ1 50 k = σ 50 k
theorem FF.rf {δ : Nat} : FF σ σ δ := ⟨fun _ _ => rfl, fun _ _ => rfl⟩
theorem FF.tt {σ1 σ2 : qM} {δ : Nat} (h1 : FF σ σ1 δ) (h2 : FF σ1 σ2 δ) : FF σ σ2 δ := ⟨fun j hj => by rw [h2.1 j hj, h1.1 j hj], fun k hk => by rw [h2.2 k hk, h1.2 k hk]⟩
theorem FF.dn {σ1 : qM} {δ : Nat} (h : FF σ σ1 (δ + 1)) : FF σ σ1 δ := ⟨fun j hj => h.1 j (by omega), fun k hk => h.2 k (by omega)⟩
theorem FF.si {σ1 : qM} {δ : Nat} (h : FF σ σ1 δ) (hs : SiR σ 15 f) : SiR σ1 15 f := by
  obtain ⟨s1, s2, s3, s4⟩ := hs
  have e : ∀ j : Nat, j < 50 → σ1 j = σ j := fun j hj => h.1 j (by omega)
  refine ⟨?_, ?_, ?_, ?_⟩
  · rw [e 15 (by omega)]; exact s1
  · rw [e 15 (by omega)]; exact s2
  · unfold StR; rw [e _ (by omega), e _ (by omega)]; exact s3
  · unfold DeR; rw [e _ (by omega), e _ (by omega), e _ (by omega)]; exact s4
theorem FF.st {σ1 : qM} {δ : Nat} (h : FF σ σ1 δ) (hs : StR σ (56 + 3 * δ) g) : StR σ1 (56 + 3 * δ) g := by
  unfold StR
  rw [h.1 _ (by omega), h.1 _ (by omega)]
  exact hs
theorem x_oot {i p : Int} {δ : Nat} (hs : SiR σ 15 f) (hR : Row f) (hd : δ ≤ 6) (hi : 0 ≤ i ∧ i < f 5) (hp0 : δ = 0 → p = -1) (hp : 0 < δ → σ 50 (δ - 1) = p ∧ 0 ≤ p ∧ p < f 5) : qE G mX2_isOutOfTurn d 0 [(0, vr 46), (1, vr 15), (2, vi δ), (3, vi i)] [] σ (ri fun r σ1 => bi (oot f p i) = r ∧ σ = σ1) := by
  have h5 := hR.de
  have k2 : σ 16 i = f (13 + 3 * i) := (hs.2.2.2 i hi.1 hi.2).1
  have d2 := (hR.d hi.1 hi.2).1
  by_cases c : δ = 0
  · have hp := hp0 c
    subst c
    refine q_iload_n (pc := 0) dX2_isOutOfTurn_0 rfl ?_
    refine q_ifeq (pc := 1) (tgt := 16) dX2_isOutOfTurn_1 (by decide) (by omega) (fun h1 => ?_) (fun h => absurd h (by omega))
    refine q_iconst (pc := 16) dX2_isOutOfTurn_16 ?_
    refine q_rz (pc := 17) dX2_isOutOfTurn_17 rfl (by first | exact bi_01 _ | omega) ?_
    exact ⟨bi_f (fun z => by have := z.1; omega), rfl⟩
  · obtain ⟨p1, p2, p3⟩ := hp (by omega)
    have k1 : σ 16 (σ 50 (δ - 1)) = f (13 + 3 * p) := by rw [p1]; exact (hs.2.2.2 p p2 p3).1
    have d1 := (hR.d p2 p3).1
    refine q_iload_n (pc := 0) dX2_isOutOfTurn_0 rfl ?_
    refine q_ifeq (pc := 1) (tgt := 16) dX2_isOutOfTurn_1 (by decide) (by omega) (fun h => absurd h (by omega)) (fun h1 => ?_)
    refine q_aload_n (pc := 4) dX2_isOutOfTurn_4 rfl ?_
    refine q_getR (pc := 5) dX2_isOutOfTurn_5 fX2_18 rfl rfl ?_
    refine q_iload_n (pc := 8) dX2_isOutOfTurn_8 rfl ?_
    refine q_iconst (pc := 9) dX2_isOutOfTurn_9 ?_
    refine q_isub (pc := 10) dX2_isOutOfTurn_10 ?_
    refine q_iald (pc := 11) dX2_isOutOfTurn_11 rfl (by omega) ?_
    refine q_iload_n (pc := 12) dX2_isOutOfTurn_12 rfl ?_
    refine q_icmpge (pc := 13) (tgt := 18) dX2_isOutOfTurn_13 (by decide) (by omega) (by omega) (fun h13 => ?_) (fun h13 => ?_)
    · refine q_aload_n (pc := 18) dX2_isOutOfTurn_18 rfl ?_
      refine q_getR (pc := 19) dX2_isOutOfTurn_19 fX2_96 rfl rfl ?_
      refine q_aload_n (pc := 22) dX2_isOutOfTurn_22 rfl ?_
      refine q_getR (pc := 23) dX2_isOutOfTurn_23 fX2_18 rfl rfl ?_
      refine q_iload_n (pc := 26) dX2_isOutOfTurn_26 rfl ?_
      refine q_iconst (pc := 27) dX2_isOutOfTurn_27 ?_
      refine q_isub (pc := 28) dX2_isOutOfTurn_28 ?_
      refine q_iald (pc := 29) dX2_isOutOfTurn_29 rfl (by omega) ?_
      refine q_iald (pc := 30) dX2_isOutOfTurn_30 rfl (by omega) ?_
      refine q_iconst (pc := 31) dX2_isOutOfTurn_31 ?_
      refine q_icmpgt (pc := 32) (tgt := 49) dX2_isOutOfTurn_32 (by decide) (by omega) (by omega) (fun h32 => ?_) (fun h32 => ?_)
      · refine q_iconst (pc := 49) dX2_isOutOfTurn_49 ?_
        refine q_rz (pc := 50) dX2_isOutOfTurn_50 rfl (by first | exact bi_01 _ | omega) ?_
        refine ⟨?_, rfl⟩
        unfold bi oot
        first
        | exact if_pos ⟨by omega, by omega, by omega, by omega⟩
        | exact if_neg (by omega)
      · refine q_aload_n (pc := 35) dX2_isOutOfTurn_35 rfl ?_
        refine q_getR (pc := 36) dX2_isOutOfTurn_36 fX2_96 rfl rfl ?_
        refine q_iload_n (pc := 39) dX2_isOutOfTurn_39 rfl ?_
        refine q_iald (pc := 40) dX2_isOutOfTurn_40 rfl (by omega) ?_
        refine q_iconst (pc := 41) dX2_isOutOfTurn_41 ?_
        refine q_icmpgt (pc := 42) (tgt := 49) dX2_isOutOfTurn_42 (by decide) (by omega) (by omega) (fun h42 => ?_) (fun h42 => ?_)
        · refine q_iconst (pc := 49) dX2_isOutOfTurn_49 ?_
          refine q_rz (pc := 50) dX2_isOutOfTurn_50 rfl (by first | exact bi_01 _ | omega) ?_
          refine ⟨?_, rfl⟩
          unfold bi oot
          first
          | exact if_pos ⟨by omega, by omega, by omega, by omega⟩
          | exact if_neg (by omega)
        · refine q_iconst (pc := 45) dX2_isOutOfTurn_45 ?_
          refine q_goto (pc := 46) (tgt := 50) dX2_isOutOfTurn_46 (by decide) ?_
          refine q_rz (pc := 50) dX2_isOutOfTurn_50 rfl (by first | exact bi_01 _ | omega) ?_
          refine ⟨?_, rfl⟩
          unfold bi oot
          first
          | exact if_pos ⟨by omega, by omega, by omega, by omega⟩
          | exact if_neg (by omega)
    · refine q_iconst (pc := 16) dX2_isOutOfTurn_16 ?_
      refine q_rz (pc := 17) dX2_isOutOfTurn_17 rfl (by first | exact bi_01 _ | omega) ?_
      refine ⟨?_, rfl⟩
      unfold bi oot
      first
      | exact if_pos ⟨by omega, by omega, by omega, by omega⟩
      | exact if_neg (by omega)
/-- the row g stands in step δ, and has the deeds of f -/
def gR (f g : Int → Int) : Prop := Row g ∧ ∀ k, k < 4 ∨ k = 4 ∨ k = 5 ∨ 12 < k → g k = f k
theorem gR.go {i : Int} (h : gR f g) (hi : 0 ≤ i ∧ i < f 5) : gR f (mDo g i) := by
  have h5 := h.2 5 (by omega)
  exact ⟨mDo_row h.1 hi.1 (by omega), fun k hk => (mDo_o h.1 hi.1 (by omega) (by omega)).trans (h.2 k hk)⟩
def fPost (σ : qM) (δ L : Nat) (o : Option (List Int)) : Option qV → qM → Prop := ri fun r σ1 => bi (o.isSome = true) = r ∧ FF σ σ1 δ ∧ ∀ l, o = some l → ∀ j : Nat, j < L → σ1 50 (δ + j) = l.getD j 0
theorem x_find {n : Int} (hR : Row f) (h1 : f 0 = 1) (hn : 0 ≤ n ∧ n ≤ 24) {len : Nat} (hlen : len ≤ 7) : ∀ (L : Nat) (e δ : Nat) (p : Int) (g : Int → Int) (σ : qM), L + 5 ≤ e → δ + L = len → gR f g → SiR σ 15 f → StR σ (56 + 3 * δ) g → (δ = 0 → p = -1) → (0 < δ → σ 50 (δ - 1) = p ∧ 0 ≤ p ∧ p < f 5) → qE G mX2_findRow e 0 [(0, vr 46), (1, vr 15), (2, vi δ), (3, vi len), (4, vi (g 6)), (5, vi (mRains f n))] [] σ (fPost σ δ L (mG n.toNat (f 5).toNat L p g)) := by
  have h5 := hR.de
  have hl := hR.law h1
  have h4 := hR.2.1
  have hr := mRains_in (f := f) (n := n) hl.2.2.1.1 hR.2.1.1 (by omega)
  intro L
  induction L with
  | zero =>
    intro e δ p g σ he hd hg hs hS hp0 hp
    obtain ⟨x, rfl⟩ : ∃ x, e = x + 5 := ⟨e - 5, by omega⟩
    have e1 := stp_at δ (by omega)
    have hO := hg.1.1
    have g3 := hg.2 3 (by omega)
    have g4 := hg.2 4 (by omega)
    have erx : mRains g n.toNat = mRains f n := by
      unfold mRains
      rw [g3, g4, show ((n.toNat : Nat) : Int) = n by omega]
    refine q_iload_n (pc := 0) dX2_findRow_0 rfl ?_
    refine q_iload_n (pc := 1) dX2_findRow_1 rfl ?_
    refine q_icmpne (pc := 2) (tgt := 22) dX2_findRow_2 (by decide) (by omega) (by omega) (fun h => absurd h (by omega)) (fun h2 => ?_)
    refine q_aload_n (pc := 5) dX2_findRow_5 rfl ?_
    refine q_aload_n (pc := 6) dX2_findRow_6 rfl ?_
    refine q_aload_n (pc := 7) dX2_findRow_7 rfl ?_
    refine q_getR (pc := 8) dX2_findRow_8 fX2_28 rfl rfl ?_
    refine q_iload_n (pc := 11) dX2_findRow_11 rfl ?_
    refine q_aald (pc := 12) dX2_findRow_12 sh55 (by decide) (by omega) e1 ?_
    refine q_iload (pc := 13) dX2_findRow_13 rfl ?_
    refine q_V2r (pc := 15) dX2_findRow_15 vX2_38 rfl rfl (Nat.le_of_ble_eq_true rfl) (Nat.le_of_ble_eq_true rfl) (t_X2_sunkBy (stp_st δ (by omega)) hS hO (by omega)) (fun r1 σ1 hc1 => ?_)
    obtain ⟨rfl, hF1, hS1, hO1⟩ := hc1
    have hSh : StR σ1 52 (mHours n.toNat g) := hS1.congr (fun j a b => by
      rw [← erx]
      exact sink_hours (f := g) hO (by rw [g3]; exact hl.2.2.1) (by rw [g4]; exact hR.2.1.1) n.toNat j a b)
    have hFx : FF σ σ1 δ := ⟨fun j hj => hF1 j (by simp; omega), fun k hk => by rw [hF1 50 (by simp)]⟩
    refine q_V1i (pc := 18) dX2_findRow_18 vX2_57 rfl rfl (Nat.le_of_ble_eq_true rfl) (Nat.le_of_ble_eq_true rfl) (t_X4_isLevel si15 st52 (hFx.si hs) hR h1 hSh (mHours_ok hO _) ⟨(mHours_o _ (by omega) _).trans (hg.2 1 (by omega)), (mHours_o _ (by omega) _).trans (hg.2 2 (by omega))⟩) (fun r2 σ2 hc2 => ?_)
    obtain ⟨rfl, rfl⟩ := hc2
    refine q_rz (pc := 21) dX2_findRow_21 rfl (by first | exact bi_01 _ | omega) ?_
    refine ⟨?_, hFx, fun l hl j hj => absurd hj (by omega)⟩
    show bi ((if mLevel (mHours n.toNat g) then some [] else none : Option (List Int)).isSome = true) = _
    by_cases c : mLevel (mHours n.toNat g)
    · rw [bi_t c]; exact bi_t (by rw [if_pos c]; rfl)
    · rw [bi_f c]; exact bi_f (by rw [if_neg c]; simp)
  | succ L ih =>
    intro e δ p g σ he hd hg hs hS hp0 hp
    obtain ⟨x, rfl⟩ : ∃ x, e = x + 6 := ⟨e - 6, by omega⟩
    have hO := hg.1.1
    have g5 := hg.2 5 (by omega)
    have h6 := hg.1.2.2.2.1
    have h7 := pow7 hg.1.de
    have e1 := stp_at δ (by omega)
    have e2 : [some 56, some 59, some 62, some 65, some 68, some 71, some 74, some 77].getD ((δ : Int) + 1).toNat none = some (56 + 3 * (δ + 1)) := by
      rw [show ((δ : Int) + 1).toNat = δ + 1 by omega]
      exact stp_at (δ + 1) (by omega)
    have sh2 := (qSt_sh _ (stp_st (δ + 1) (by omega))).1
    have inner : ∀ (m i : Nat) (σ' : qM), m + i = (f 5).toNat → FF σ σ' δ → qE G mX2_findRow (x + 6) 47 [(6, vi i), (0, vr 46), (1, vr 15), (2, vi δ), (3, vi len), (4, vi (g 6)), (5, vi (mRains f n))] [] σ' (fPost σ δ (L + 1) (scan (fun i => mG n.toNat (f 5).toNat L i (mDo g i)) (fun i => ¬ mDone g i ∧ ¬ oot g p i) m i)) := by
      intro m
      induction m with
      | zero =>
        intro i σ' hm hF
        have e5 := (hF.si hs).1.2.2.1
        refine q_iload (pc := 47) dX2_findRow_47 rfl ?_
        refine q_aload_n (pc := 49) dX2_findRow_49 rfl ?_
        refine q_gI (pc := 50) 5 dX2_findRow_50 fX2_70 rfl rfl rfl ?_
        refine q_icmpge (pc := 53) (tgt := 149) dX2_findRow_53 (by decide) (by omega) (by omega) (fun h53 => ?_) (fun h => absurd h (by omega))
        refine q_iconst (pc := 149) dX2_findRow_149 ?_
        refine q_rz (pc := 150) dX2_findRow_150 rfl (by first | exact bi_01 _ | omega) ?_
        exact ⟨bi_f (by simp [scan]), hF, fun l hl => absurd hl (by simp [scan])⟩
      | succ m ihm =>
        intro i σ' hm hF
        have hs' := hF.si hs
        have hS' := hF.st hS
        have e5 := hs'.1.2.2.1
        have hi : 0 ≤ (i : Int) ∧ (i : Int) < f 5 := by omega
        have hq := qand_in (qshr (g 6) i) 1
        have hd' := hR.d hi.1 hi.2
        have k1 := hg.2 (13 + 3 * (i : Int)) (by omega)
        have k2 := hg.2 (14 + 3 * (i : Int)) (by omega)
        have k3 := hg.2 (15 + 3 * (i : Int)) (by omega)
        have hp' : 0 < δ → σ' 50 (δ - 1) = p ∧ 0 ≤ p ∧ p < f 5 := fun z => by
          have := hp z
          rw [hF.2 _ (by omega)]
          exact this
        have eo : oot g p i ↔ oot f p i := by
          constructor
          · intro z
            have z1 := hg.2 (13 + 3 * p) (by have := z.1; omega)
            exact ⟨z.1, z.2.1, by have := z.2.2.1; omega, by have := z.2.2.2; omega⟩
          · intro z
            have z1 := hg.2 (13 + 3 * p) (by have := z.1; omega)
            exact ⟨z.1, z.2.1, by have := z.2.2.1; omega, by have := z.2.2.2; omega⟩
        have skip : ¬ (¬ mDone g i ∧ ¬ oot g p i) → scan (fun i => mG n.toNat (f 5).toNat L i (mDo g i)) (fun i => ¬ mDone g i ∧ ¬ oot g p i) (m + 1) i = scan (fun i => mG n.toNat (f 5).toNat L i (mDo g i)) (fun i => ¬ mDone g i ∧ ¬ oot g p i) m (i + 1) := fun z => if_neg z
        refine q_iload (pc := 47) dX2_findRow_47 rfl ?_
        refine q_aload_n (pc := 49) dX2_findRow_49 rfl ?_
        refine q_gI (pc := 50) 5 dX2_findRow_50 fX2_70 (by first | assumption | rfl) (by rfl) (by rfl) ?_
        refine q_icmpge (pc := 53) (tgt := 149) dX2_findRow_53 (by decide) (by omega) (by omega) (fun h => absurd h (by omega)) (fun h53 => ?_)
        refine q_iload (pc := 56) dX2_findRow_56 rfl ?_
        refine q_iload (pc := 58) dX2_findRow_58 rfl ?_
        refine q_ishr (pc := 60) dX2_findRow_60 ?_
        refine q_iconst (pc := 61) dX2_findRow_61 ?_
        refine q_iand (pc := 62) dX2_findRow_62 ?_
        refine q_iconst (pc := 63) dX2_findRow_63 ?_
        refine q_icmpeq (pc := 64) (tgt := 143) dX2_findRow_64 (by decide) (by omega) (by omega) (fun h64 => ?_) (fun h64 => ?_)
        · refine q_iinc (pc := 143) dX2_findRow_143 rfl (Nat.le_of_ble_eq_true rfl) ?_
          refine q_goto (pc := 146) (tgt := 47) dX2_findRow_146 (by decide) ?_
          first
          | (have z : mDone g i := by assumption
             rw [skip (fun q => q.1 z)]
             exact q_locs _ [0, 1, 2, 3, 4, 5, 6] rfl (ihm (i + 1) σ' (by omega) hF))
          | (have z : oot f p i := by assumption
             rw [skip (fun q => q.2 (eo.mpr z))]
             exact q_locs _ [0, 1, 2, 3, 4, 5, 6] rfl (ihm (i + 1) σ' (by omega) hF))
          | (have z : mG n.toNat (f 5).toNat L i (mDo g i) = none := by
               cases ez : mG n.toNat (f 5).toNat L i (mDo g i) with
               | none => rfl
               | some l => exact absurd (show (mG n.toNat (f 5).toNat L i (mDo g i)).isSome = true by rw [ez]; rfl) (by assumption)
             have es : scan (fun i => mG n.toNat (f 5).toNat L i (mDo g i)) (fun i => ¬ mDone g i ∧ ¬ oot g p i) (m + 1) i = scan (fun i => mG n.toNat (f 5).toNat L i (mDo g i)) (fun i => ¬ mDone g i ∧ ¬ oot g p i) m (i + 1) := by
               show (if _ then _ else _) = _
               rw [if_pos ⟨by assumption, fun q => absurd (eo.mp q) (by assumption)⟩]
               simp only [z]
             rw [es]
             exact q_locs _ [0, 1, 2, 3, 4, 5, 6] rfl (ihm (i + 1) σ0 (by omega) (hF.tt (hFx.tt hF0.dn))))
        · refine q_aload_n (pc := 67) dX2_findRow_67 rfl ?_
          refine q_aload_n (pc := 68) dX2_findRow_68 rfl ?_
          refine q_iload_n (pc := 69) dX2_findRow_69 rfl ?_
          refine q_iload (pc := 70) dX2_findRow_70 rfl ?_
          refine q_V3i (pc := 72) dX2_findRow_72 vX2_92 (by first | assumption | rfl) (by rfl) (Nat.le_of_ble_eq_true rfl) (Nat.le_of_ble_eq_true rfl) (x_oot hs' hR (by omega) hi hp0 hp') (fun r1 σ1 hc1 => ?_)
          obtain ⟨rfl, rfl⟩ := hc1
          refine q_ifeqb (pc := 75) (tgt := 81) dX2_findRow_75 (by decide) (fun h75 => ?_) (fun h75 => ?_)
          · refine q_aload_n (pc := 81) dX2_findRow_81 rfl ?_
            refine q_getR (pc := 82) dX2_findRow_82 fX2_18 (by first | assumption | rfl) (by rfl) ?_
            refine q_iload_n (pc := 85) dX2_findRow_85 rfl ?_
            refine q_iload (pc := 86) dX2_findRow_86 rfl ?_
            refine q_iast (pc := 88) dX2_findRow_88 (by first | assumption | rfl) (by omega) ?_
            refine q_aload_n (pc := 89) dX2_findRow_89 rfl ?_
            refine q_getR (pc := 90) dX2_findRow_90 fX2_28 (by first | assumption | rfl) (by rfl) ?_
            refine q_iload_n (pc := 93) dX2_findRow_93 rfl ?_
            refine q_iconst (pc := 94) dX2_findRow_94 ?_
            refine q_iadd (pc := 95) dX2_findRow_95 ?_
            refine q_aald (pc := 96) dX2_findRow_96 sh55 (by decide) (by omega) e2 ?_
            refine q_aload_n (pc := 97) dX2_findRow_97 rfl ?_
            refine q_getR (pc := 98) dX2_findRow_98 fX2_28 (by first | assumption | rfl) (by rfl) ?_
            refine q_iload_n (pc := 101) dX2_findRow_101 rfl ?_
            refine q_aald (pc := 102) dX2_findRow_102 sh55 (by decide) (by omega) e1 ?_
            refine q_V1v (pc := 103) dX2_findRow_103 vX2_42 (by first | assumption | rfl) (by rfl) (Nat.le_of_ble_eq_true rfl) (Nat.le_of_ble_eq_true rfl) (t_X5_copyFrom (stp_st (δ + 1) (by omega)) (stp_st δ (by omega)) (hS'.fr (S := [50]) (Fr.up (by simp)) (by simp; omega) (by simp; omega))) (fun σ2 hc2 => ?_)
            obtain ⟨hF2, hS2⟩ := hc2
            refine q_aload_n (pc := 106) dX2_findRow_106 rfl ?_
            refine q_iload (pc := 107) dX2_findRow_107 rfl ?_
            refine q_aload_n (pc := 109) dX2_findRow_109 rfl ?_
            refine q_getR (pc := 110) dX2_findRow_110 fX2_28 (by first | assumption | rfl) (by rfl) ?_
            refine q_iload_n (pc := 113) dX2_findRow_113 rfl ?_
            refine q_iconst (pc := 114) dX2_findRow_114 ?_
            refine q_iadd (pc := 115) dX2_findRow_115 ?_
            refine q_aald (pc := 116) dX2_findRow_116 sh55 (by decide) (by omega) e2 ?_
            refine q_V2v (pc := 117) dX2_findRow_117 vX2_65 (by first | assumption | rfl) (by rfl) (Nat.le_of_ble_eq_true rfl) (Nat.le_of_ble_eq_true rfl) (t_X4_enact si15 (stp_st (δ + 1) (by omega)) ((hs'.fr (S := [50]) (Fr.up (by simp)) (fun j a b => by simp; omega)).fr hF2 (fun j a b => by simp; omega)) hR hi hS2 hO) (fun σ3 hc3 => ?_)
            obtain ⟨hF3, hS3, hO3⟩ := hc3
            have hSx : StR σ3 (56 + 3 * (δ + 1)) (mDo g i) := hS3.congr (fun j a b => by unfold mDo; rw [u1_ne (by omega), k1, k2, k3])
            have hFx : FF σ' σ3 δ := ⟨fun j hj => by rw [hF3 j (by simp; omega), hF2 j (by simp; omega), up_ne (by omega)], fun k hk => by rw [hF3 50 (by simp; omega), hF2 50 (by simp; omega), up_same, if_neg (by omega)]⟩
            have h50 : σ3 50 δ = i := by rw [hF3 50 (by simp; omega), hF2 50 (by simp; omega), up_same, if_pos rfl]
            have hsx := hFx.si hs'
            have hgx := hg.go hi
            refine q_aload_n (pc := 120) dX2_findRow_120 rfl ?_
            refine q_aload_n (pc := 121) dX2_findRow_121 rfl ?_
            refine q_iload_n (pc := 122) dX2_findRow_122 rfl ?_
            refine q_iconst (pc := 123) dX2_findRow_123 ?_
            refine q_iadd (pc := 124) dX2_findRow_124 ?_
            refine q_iload_n (pc := 125) dX2_findRow_125 rfl ?_
            refine q_iload (pc := 126) dX2_findRow_126 rfl ?_
            refine q_iconst (pc := 128) dX2_findRow_128 ?_
            refine q_iload (pc := 129) dX2_findRow_129 rfl ?_
            refine q_ishl (pc := 131) dX2_findRow_131 ?_
            refine q_ior (pc := 132) dX2_findRow_132 ?_
            rw [show qor (g 6) (qshl 1 i) = mDo g i 6 from (mDo_6 g i).symm]
            refine q_iload (pc := 133) dX2_findRow_133 rfl ?_
            refine q_V5i (pc := 135) dX2_findRow_135 vX2_88 (by first | assumption | rfl) (by rfl) (Nat.le_of_ble_eq_true rfl) (Nat.le_of_ble_eq_true rfl) (ih (x + 5) (δ + 1) i (mDo g i) _ (by omega) (by omega) hgx hsx hSx (fun z => absurd z (by omega)) (fun z => ⟨by rw [show (((δ + 1 : Nat) : Int) - 1) = δ by omega]; exact h50, hi.1, hi.2⟩)) (fun r4 σ4 hc4 => ?_)
            obtain ⟨rfl, hF4, hl4⟩ := hc4
            refine q_ifeqb (pc := 138) (tgt := 143) dX2_findRow_138 (by decide) (fun h138 => ?_) (fun h138 => ?_)
            · refine q_iinc (pc := 143) dX2_findRow_143 rfl (Nat.le_of_ble_eq_true rfl) ?_
              refine q_goto (pc := 146) (tgt := 47) dX2_findRow_146 (by decide) ?_
              first
              | (have z : mDone g i := by assumption
                 rw [skip (fun q => q.1 z)]
                 exact q_locs _ [0, 1, 2, 3, 4, 5, 6] rfl (ihm (i + 1) σ' (by omega) hF))
              | (have z : oot f p i := by assumption
                 rw [skip (fun q => q.2 (eo.mpr z))]
                 exact q_locs _ [0, 1, 2, 3, 4, 5, 6] rfl (ihm (i + 1) σ' (by omega) hF))
              | (have z : mG n.toNat (f 5).toNat L i (mDo g i) = none := by
                   cases ez : mG n.toNat (f 5).toNat L i (mDo g i) with
                   | none => rfl
                   | some l => exact absurd (show (mG n.toNat (f 5).toNat L i (mDo g i)).isSome = true by rw [ez]; rfl) (by assumption)
                 have es : scan (fun i => mG n.toNat (f 5).toNat L i (mDo g i)) (fun i => ¬ mDone g i ∧ ¬ oot g p i) (m + 1) i = scan (fun i => mG n.toNat (f 5).toNat L i (mDo g i)) (fun i => ¬ mDone g i ∧ ¬ oot g p i) m (i + 1) := by
                   show (if _ then _ else _) = _
                   rw [if_pos ⟨by assumption, fun q => absurd (eo.mp q) (by assumption)⟩]
                   simp only [z]
                 rw [es]
                 exact q_locs _ [0, 1, 2, 3, 4, 5, 6] rfl (ihm (i + 1) σ4 (by omega) (hF.tt (hFx.tt hF4.dn))))
            · refine q_iconst (pc := 141) dX2_findRow_141 ?_
              refine q_rz (pc := 142) dX2_findRow_142 rfl (by first | exact bi_01 _ | omega) ?_
              have hmg := h138
              obtain ⟨l, hl0⟩ := Option.isSome_iff_exists.mp hmg
              have es : scan (fun i => mG n.toNat (f 5).toNat L i (mDo g i)) (fun i => ¬ mDone g i ∧ ¬ oot g p i) (m + 1) i = some ((i : Int) :: l) := by
                show (if _ then _ else _) = _
                rw [if_pos ⟨by assumption, fun q => absurd (eo.mp q) (by assumption)⟩]
                simp only [hl0]
              rw [es]
              refine ⟨bi_t rfl, hF.tt (hFx.tt hF4.dn), fun k hk j hj => ?_⟩
              have hk : (i : Int) :: l = k := by simpa using hk
              subst hk
              cases j with
              | zero =>
                show σ4 50 ((δ : Int) + ((0 : Nat) : Int)) = (i : Int)
                rw [show (δ : Int) + ((0 : Nat) : Int) = δ by omega, hF4.2 δ (by omega)]
                exact h50
              | succ j =>
                have := hl4 l hl0 j (by omega)
                show σ4 50 ((δ : Int) + ((j + 1 : Nat) : Int)) = l.getD j 0
                rw [← this]
                congr 1
                omega
          · refine q_goto (pc := 78) (tgt := 143) dX2_findRow_78 (by decide) ?_
            refine q_iinc (pc := 143) dX2_findRow_143 rfl (Nat.le_of_ble_eq_true rfl) ?_
            refine q_goto (pc := 146) (tgt := 47) dX2_findRow_146 (by decide) ?_
            first
            | (have z : mDone g i := by assumption
               rw [skip (fun q => q.1 z)]
               exact q_locs _ [0, 1, 2, 3, 4, 5, 6] rfl (ihm (i + 1) σ' (by omega) hF))
            | (have z : oot f p i := by assumption
               rw [skip (fun q => q.2 (eo.mpr z))]
               exact q_locs _ [0, 1, 2, 3, 4, 5, 6] rfl (ihm (i + 1) σ' (by omega) hF))
            | (have z : mG n.toNat (f 5).toNat L i (mDo g i) = none := by
                 cases ez : mG n.toNat (f 5).toNat L i (mDo g i) with
                 | none => rfl
                 | some l => exact absurd (show (mG n.toNat (f 5).toNat L i (mDo g i)).isSome = true by rw [ez]; rfl) (by assumption)
               have es : scan (fun i => mG n.toNat (f 5).toNat L i (mDo g i)) (fun i => ¬ mDone g i ∧ ¬ oot g p i) (m + 1) i = scan (fun i => mG n.toNat (f 5).toNat L i (mDo g i)) (fun i => ¬ mDone g i ∧ ¬ oot g p i) m (i + 1) := by
                 show (if _ then _ else _) = _
                 rw [if_pos ⟨by assumption, fun q => absurd (eo.mp q) (by assumption)⟩]
                 simp only [z]
               rw [es]
               exact q_locs _ [0, 1, 2, 3, 4, 5, 6] rfl (ihm (i + 1) σ1 (by omega) (hF.tt (hFx.tt hF1.dn))))
    refine q_iload_n (pc := 0) dX2_findRow_0 rfl ?_
    refine q_iload_n (pc := 1) dX2_findRow_1 rfl ?_
    refine q_icmpne (pc := 2) (tgt := 22) dX2_findRow_2 (by decide) (by omega) (by omega) (fun h2 => ?_) (fun h => absurd h (by omega))
    refine q_iload_n (pc := 22) dX2_findRow_22 rfl ?_
    refine q_iconst (pc := 23) dX2_findRow_23 ?_
    refine q_iadd (pc := 24) dX2_findRow_24 ?_
    refine q_aload_n (pc := 25) dX2_findRow_25 rfl ?_
    refine q_getR (pc := 26) dX2_findRow_26 fX2_28 rfl rfl ?_
    refine q_alen (pc := 29) dX2_findRow_29 rfl (by decide) ?_
    refine q_icmpge (pc := 30) (tgt := 42) dX2_findRow_30 (by decide) (by omega) (by omega) (fun h => absurd h (by omega)) (fun h30 => ?_)
    refine q_iload_n (pc := 33) dX2_findRow_33 rfl ?_
    refine q_aload_n (pc := 34) dX2_findRow_34 rfl ?_
    refine q_getR (pc := 35) dX2_findRow_35 fX2_18 rfl rfl ?_
    refine q_alen (pc := 38) dX2_findRow_38 rfl (by decide) ?_
    refine q_icmplt (pc := 39) (tgt := 44) dX2_findRow_39 (by decide) (by omega) (by omega) (fun h39 => ?_) (fun h => absurd h (by omega))
    refine q_iconst (pc := 44) dX2_findRow_44 ?_
    refine q_istore (pc := 45) dX2_findRow_45 (Nat.le_of_ble_eq_true rfl) ?_
    exact q_locs _ [0, 1, 2, 3, 4, 5, 6] rfl (inner (f 5).toNat 0 σ (by omega) FF.rf)
theorem x_planLen_l {n : Int} (hR : Row f) (h1 : f 0 = 1) (hn : 0 ≤ n ∧ n ≤ 24) (hs0 : SiR σ 15 f) (hS0 : StR σ 56 f) : ∀ (m L : Nat) (σ' : qM), m + L = wC f (f 5).toNat + 1 → FF σ σ' 0 → qE G mX2_planLength (d + 13) 28 [(5, vi L), (4, vi (mRains f n)), (3, vi (wC f (f 5).toNat)), (0, vr 46), (1, vr 15), (2, vi n)] [] σ' (ri fun r σ1 => pAns (-1) (pL n.toNat (f 5).toNat f m L) = r ∧ FF σ σ1 0 ∧ ∀ K l, pL n.toNat (f 5).toNat f m L = some (K, l) → K ≤ 7 ∧ ∀ j : Nat, j < K → σ1 50 j = l.getD j 0) := by
  have h5 := hR.de
  have hc := wC_in f (f 5).toNat
  intro m
  induction m with
  | zero =>
    intro L σ' hm hF
    refine q_iload (pc := 28) dX2_planLength_28 rfl ?_
    refine q_iload_n (pc := 30) dX2_planLength_30 rfl ?_
    refine q_icmpgt (pc := 31) (tgt := 60) dX2_planLength_31 (by decide) (by omega) (by omega) (fun h31 => ?_) (fun h => absurd h (by omega))
    refine q_ldc (pc := 60) (n := -1000000) kX2_69 dX2_planLength_60 ?_
    refine q_ri (pc := 62) dX2_planLength_62 rfl ?_
    exact ⟨rfl, hF, fun K l h => absurd h (by simp [pL])⟩
  | succ m ih =>
    intro L σ' hm hF
    have hs := hF.si hs0
    have e6 := hs.1.2.2.2
    have hS : StR σ' (56 + 3 * 0) f := hF.st (δ := 0) hS0
    have hMG := mF_mG (n := n.toNat) (N := (f 5).toNat) hR (by omega) L
    refine q_iload (pc := 28) dX2_planLength_28 rfl ?_
    refine q_iload_n (pc := 30) dX2_planLength_30 rfl ?_
    refine q_icmpgt (pc := 31) (tgt := 60) dX2_planLength_31 (by decide) (by omega) (by omega) (fun h => absurd h (by omega)) (fun h31 => ?_)
    refine q_aload_n (pc := 34) dX2_planLength_34 rfl ?_
    refine q_aload_n (pc := 35) dX2_planLength_35 rfl ?_
    refine q_iconst (pc := 36) dX2_planLength_36 ?_
    refine q_iload (pc := 37) dX2_planLength_37 rfl ?_
    refine q_aload_n (pc := 39) dX2_planLength_39 rfl ?_
    refine q_gI (pc := 40) 6 dX2_planLength_40 fX2_85 rfl rfl rfl ?_
    rw [e6]
    refine q_iload (pc := 43) dX2_planLength_43 rfl ?_
    refine q_V5i (pc := 45) dX2_planLength_45 vX2_88 rfl rfl (Nat.le_of_ble_eq_true rfl) (Nat.le_of_ble_eq_true rfl) (x_find (len := L) hR h1 hn (by omega) L (d + 12) 0 (-1) f σ' (by omega) (by omega) ⟨hR, fun _ _ => rfl⟩ hs hS (fun _ => rfl) (fun z => absurd z (by omega))) (fun r1 σ1 hc1 => ?_)
    obtain ⟨rfl, hF1, hl1⟩ := hc1
    refine q_ifeqb (pc := 48) (tgt := 54) dX2_planLength_48 (by decide) (fun h48 => ?_) (fun h48 => ?_)
    · refine q_iinc (pc := 54) dX2_planLength_54 rfl (Nat.le_of_ble_eq_true rfl) ?_
      refine q_goto (pc := 57) (tgt := 28) dX2_planLength_57 (by decide) ?_
      have hz : mG n.toNat (f 5).toNat L (-1) f = none := by
        cases ez : mG n.toNat (f 5).toNat L (-1) f with
        | none => rfl
        | some l => exact absurd (show (mG n.toNat (f 5).toNat L (-1) f).isSome = true by rw [ez]; rfl) h48
      have es : pL n.toNat (f 5).toNat f (m + 1) L = pL n.toNat (f 5).toNat f m (L + 1) := by
        show (match mF n.toNat (f 5).toNat L f with | some l => some (L, l) | none => pL n.toNat (f 5).toNat f m (L + 1)) = _
        rw [hMG, hz]
      rw [es]
      exact q_locs _ [0, 1, 2, 3, 4, 5] rfl (ih (L + 1) σ1 (by omega) (hF.tt hF1))
    · refine q_iload (pc := 51) dX2_planLength_51 rfl ?_
      refine q_ri (pc := 53) dX2_planLength_53 rfl ?_
      obtain ⟨l, hl0⟩ := Option.isSome_iff_exists.mp h48
      have es : pL n.toNat (f 5).toNat f (m + 1) L = some (L, l) := by
        unfold pL
        rw [hMG, hl0]
      rw [es]
      refine ⟨rfl, hF.tt hF1, fun K k hk => ?_⟩
      have hk : L = K ∧ l = k := by simpa using hk
      obtain ⟨rfl, rfl⟩ := hk
      refine ⟨by omega, fun j hj => ?_⟩
      have := hl1 l hl0 j hj
      rw [show ((0 : Nat) : Int) + (j : Int) = j by omega] at this
      exact this

theorem x_planLen {n : Int} (hR : Row f) (h1 : f 0 = 1) (hn : 0 ≤ n ∧ n ≤ 24) (hs0 : SiR σ 15 f) : qE G mX2_planLength (d + 13) 0 [(0, vr 46), (1, vr 15), (2, vi n)] [] σ (ri fun r σ1 => pAns (-1) (pL n.toNat (f 5).toNat f ((f 5).toNat + 1) 0) = r ∧ (∀ j : Nat, j < 50 ∨ 80 ≤ j → σ1 j = σ j) ∧ ∀ K l, pL n.toNat (f 5).toNat f ((f 5).toNat + 1) 0 = some (K, l) → K ≤ 7 ∧ ∀ j : Nat, j < K → σ1 50 j = l.getD j 0) := by
  have h5 := hR.de
  have hc := wC_in f (f 5).toNat
  have hcut := pL_cut (n := n.toNat) (N := (f 5).toNat) hR (by omega) (wC f (f 5).toNat + 1) ((f 5).toNat - wC f (f 5).toNat) 0 (by omega)
  rw [show wC f (f 5).toNat + 1 + ((f 5).toNat - wC f (f 5).toNat) = (f 5).toNat + 1 by omega] at hcut
  rw [hcut]
  refine q_aload_n (pc := 0) dX2_planLength_0 rfl ?_
  refine q_V0i (pc := 1) dX2_planLength_1 vX2_82 rfl rfl (Nat.le_of_ble_eq_true rfl) (Nat.le_of_ble_eq_true rfl) (t_X4_leftCount hs0 hR) (fun r1 σ1 hc1 => ?_)
  obtain ⟨rfl, rfl⟩ := hc1
  refine q_istore_n (pc := 4) dX2_planLength_4 (Nat.le_of_ble_eq_true rfl) ?_
  refine q_aload_n (pc := 5) dX2_planLength_5 rfl ?_
  refine q_iload_n (pc := 6) dX2_planLength_6 rfl ?_
  refine q_V1i (pc := 7) dX2_planLength_7 vX2_32 rfl rfl (Nat.le_of_ble_eq_true rfl) (Nat.le_of_ble_eq_true rfl) (t_X4_rainsWithin si15 hs0 hR h1 (by omega)) (fun r2 σ2 hc2 => ?_)
  obtain ⟨rfl, rfl⟩ := hc2
  refine q_istore (pc := 10) dX2_planLength_10 (Nat.le_of_ble_eq_true rfl) ?_
  refine q_aload_n (pc := 12) dX2_planLength_12 rfl ?_
  refine q_getR (pc := 13) dX2_planLength_13 fX2_28 rfl rfl ?_
  refine q_iconst (pc := 16) dX2_planLength_16 ?_
  refine q_aald (pc := 17) dX2_planLength_17 rfl (by decide) (by omega) rfl ?_
  refine q_aload_n (pc := 18) dX2_planLength_18 rfl ?_
  refine q_getR (pc := 19) dX2_planLength_19 fX2_50 rfl rfl ?_
  refine q_V1v (pc := 22) dX2_planLength_22 vX2_42 rfl rfl (Nat.le_of_ble_eq_true rfl) (Nat.le_of_ble_eq_true rfl) (t_X5_copyFrom (stp_st 0 (by omega)) st19 hs0.2.2.1) (fun σ3 hc3 => ?_)
  obtain ⟨hF3, hS3⟩ := hc3
  refine q_iconst (pc := 25) dX2_planLength_25 ?_
  refine q_istore (pc := 26) dX2_planLength_26 (Nat.le_of_ble_eq_true rfl) ?_
  refine q_locs _ [0, 1, 2, 3, 4, 5] rfl (q_mono (fun v σ' h => ?_) (x_planLen_l hR h1 hn (hs0.fr hF3 (fun j a b => by simp; omega)) hS3 (wC f (f 5).toNat + 1) 0 _ (by omega) FF.rf))
  obtain ⟨x, z1, z2, z3, z4⟩ := h
  exact ⟨x, z1, z2, fun j hj => by rw [z3.1 j (by omega), hF3 j (by simp; omega)], z4⟩
theorem pAns_1 {w : Int} {K : Nat} {l : List Int} : pAns w (some (K, l)) = if w = -1 then (K : Int) else if w < K then l.getD w.toNat 0 else -1000000 := rfl
theorem x_plan {n w : Int} (hC : CR σ A) (hV : AV A) (hn : -2147483648 ≤ n ∧ n ≤ 2147483647) (hw : -2147483648 ≤ w ∧ w ≤ 2147483647) : qE G mX7_plan (d + 14) 0 [(0, vr 0), (1, vi n), (2, vi w)] [] σ (ri (pC σ (s_plan A n w))) := by
  have hR := hV.1
  have h01 := hR.f0
  have e0 := hC.1.1.1
  have h5 := hR.de
  refine q_aload_n (pc := 0) dX7_plan_0 rfl ?_
  refine q_getR (pc := 1) dX7_plan_1 fX7_26 rfl rfl ?_
  refine q_gI (pc := 4) 0 dX7_plan_4 fX7_141 rfl rfl rfl ?_
  refine q_ifne (pc := 7) (tgt := 13) dX7_plan_7 (by decide) (by omega) (fun h7 => ?_) (fun h7 => ?_)
  · refine q_iload_n (pc := 13) dX7_plan_13 rfl ?_
    refine q_iconst (pc := 14) dX7_plan_14 ?_
    refine q_bipush (pc := 15) dX7_plan_15 (by decide +kernel) ?_
    refine q_S3i (pc := 17) dX7_plan_17 vX7_62 (Nat.le_of_ble_eq_true rfl) (Nat.le_of_ble_eq_true rfl) (t_X7_isWithin (by omega) (by omega) (by omega)) (fun r1 σ1 hc1 => ?_)
    obtain ⟨rfl, rfl⟩ := hc1
    refine q_ifeqb (pc := 20) (tgt := 28) dX7_plan_20 (by decide) (fun h20 => ?_) (fun h20 => ?_)
    · refine q_ldc (pc := 28) (n := -1000001) kX7_66 dX7_plan_28 ?_
      refine q_ri (pc := 30) dX7_plan_30 rfl ?_
      refine pC.q0 hC ?_
      repeat' (first | rw [if_neg (by omega)] | rw [if_pos (by omega)])
    · refine q_iload_n (pc := 23) dX7_plan_23 rfl ?_
      refine q_iconst (pc := 24) dX7_plan_24 ?_
      refine q_icmpge (pc := 25) (tgt := 31) dX7_plan_25 (by decide) (by omega) (by omega) (fun h25 => ?_) (fun h25 => ?_)
      · refine q_aload_n (pc := 31) dX7_plan_31 rfl ?_
        refine q_getR (pc := 32) dX7_plan_32 fX7_47 rfl rfl ?_
        refine q_aload_n (pc := 35) dX7_plan_35 rfl ?_
        refine q_getR (pc := 36) dX7_plan_36 fX7_26 rfl rfl ?_
        refine q_iload_n (pc := 39) dX7_plan_39 rfl ?_
        refine q_V2i (pc := 40) dX7_plan_40 vX7_236 rfl rfl (Nat.le_of_ble_eq_true rfl) (Nat.le_of_ble_eq_true rfl) (x_planLen hR (by omega) (by omega) hC.1) (fun r2 σ2 hc2 => ?_)
        obtain ⟨rfl, hF2, hl2⟩ := hc2
        have hFx : Fr σ σ2 [50, 51, 52, 53, 54, 55, 56, 57, 58, 59, 60, 61, 62, 63, 64, 65, 66, 67, 68, 69, 70, 71, 72, 73, 74, 75, 76, 77, 78, 79] := fun j hj => hF2 j (by simp at hj; omega)
        have hsp : s_plan A n w = (pAns w (pL n.toNat (A.1 5).toNat A.1 ((A.1 5).toNat + 1) 0), A) := by
          unfold s_plan
          rw [if_pos (by omega), if_pos (by omega)]
        generalize pL n.toNat (A.1 5).toNat A.1 ((A.1 5).toNat + 1) 0 = o at hsp hl2 ⊢
        have ho : o = none ∨ ∃ K l, o = some (K, l) := by
          cases o with
          | none => exact Or.inl rfl
          | some z => exact Or.inr ⟨z.1, z.2, rfl⟩
        have hr : pAns (-1) o = -1000000 ∨ (0 ≤ pAns (-1) o ∧ pAns (-1) o ≤ 7) := by
          rcases ho with rfl | ⟨K, l, rfl⟩
          · exact Or.inl rfl
          · have := (hl2 K l rfl).1
            refine Or.inr ?_
            show 0 ≤ (K : Int) ∧ (K : Int) ≤ 7
            omega
        refine q_istore_n (pc := 43) dX7_plan_43 (Nat.le_of_ble_eq_true rfl) ?_
        refine q_iload_n (pc := 44) dX7_plan_44 rfl ?_
        refine q_ldc (pc := 45) (n := -1000000) kX7_227 dX7_plan_45 ?_
        refine q_icmpeq (pc := 47) (tgt := 55) dX7_plan_47 (by decide) (by omega) (by omega) (fun h47 => ?_) (fun h47 => ?_)
        · refine q_iload_n (pc := 55) dX7_plan_55 rfl ?_
          refine q_ri (pc := 56) dX7_plan_56 rfl ?_
          rw [hsp]
          refine pC.q hC hFx (scr_in (by decide)) ?_
          rcases ho with rfl | ⟨K, l, rfl⟩
          · first
            | rfl
            | (exfalso
               have e : pAns (-1) none = -1000000 := rfl
               omega)
          · have hK := hl2 K l rfl
            have e1 : pAns (-1) (some (K, l)) = K := rfl
            rw [pAns_1]
            first
            | (rw [if_pos (by omega), e1]; done)
            | (exfalso; omega)
            | (rw [if_neg (by omega), if_pos (by omega)]
               have := hK.2 w.toNat (by omega)
               rw [show ((w.toNat : Nat) : Int) = w by omega] at this
               exact this.symm)
            | (rw [if_neg (by omega), if_neg (by omega)]; done)
        · refine q_iload_n (pc := 50) dX7_plan_50 rfl ?_
          refine q_iconst (pc := 51) dX7_plan_51 ?_
          refine q_icmpne (pc := 52) (tgt := 57) dX7_plan_52 (by decide) (by omega) (by omega) (fun h52 => ?_) (fun h52 => ?_)
          · refine q_iload_n (pc := 57) dX7_plan_57 rfl ?_
            refine q_iload_n (pc := 58) dX7_plan_58 rfl ?_
            refine q_icmpge (pc := 59) (tgt := 74) dX7_plan_59 (by decide) (by omega) (by omega) (fun h59 => ?_) (fun h59 => ?_)
            · refine q_ldc (pc := 74) (n := -1000000) kX7_227 dX7_plan_74 ?_
              refine q_ri (pc := 76) dX7_plan_76 rfl ?_
              rw [hsp]
              refine pC.q hC hFx (scr_in (by decide)) ?_
              rcases ho with rfl | ⟨K, l, rfl⟩
              · first
                | rfl
                | (exfalso
                   have e : pAns (-1) none = -1000000 := rfl
                   omega)
              · have hK := hl2 K l rfl
                have e1 : pAns (-1) (some (K, l)) = K := rfl
                rw [pAns_1]
                first
                | (rw [if_pos (by omega), e1]; done)
                | (exfalso; omega)
                | (rw [if_neg (by omega), if_pos (by omega)]
                   have := hK.2 w.toNat (by omega)
                   rw [show ((w.toNat : Nat) : Int) = w by omega] at this
                   exact this.symm)
                | (rw [if_neg (by omega), if_neg (by omega)]; done)
            · refine q_aload_n (pc := 62) dX7_plan_62 rfl ?_
              refine q_getR (pc := 63) dX7_plan_63 fX7_47 rfl rfl ?_
              refine q_getR (pc := 66) dX7_plan_66 fX7_239 rfl rfl ?_
              refine q_iload_n (pc := 69) dX7_plan_69 rfl ?_
              refine q_iald (pc := 70) dX7_plan_70 rfl (by omega) ?_
              refine q_goto (pc := 71) (tgt := 76) dX7_plan_71 (by decide) ?_
              refine q_ri (pc := 76) dX7_plan_76 rfl ?_
              rw [hsp]
              refine pC.q hC hFx (scr_in (by decide)) ?_
              rcases ho with rfl | ⟨K, l, rfl⟩
              · first
                | rfl
                | (exfalso
                   have e : pAns (-1) none = -1000000 := rfl
                   omega)
              · have hK := hl2 K l rfl
                have e1 : pAns (-1) (some (K, l)) = K := rfl
                rw [pAns_1]
                first
                | (rw [if_pos (by omega), e1]; done)
                | (exfalso; omega)
                | (rw [if_neg (by omega), if_pos (by omega)]
                   have := hK.2 w.toNat (by omega)
                   rw [show ((w.toNat : Nat) : Int) = w by omega] at this
                   exact this.symm)
                | (rw [if_neg (by omega), if_neg (by omega)]; done)
          · refine q_iload_n (pc := 55) dX7_plan_55 rfl ?_
            refine q_ri (pc := 56) dX7_plan_56 rfl ?_
            rw [hsp]
            refine pC.q hC hFx (scr_in (by decide)) ?_
            rcases ho with rfl | ⟨K, l, rfl⟩
            · first
              | rfl
              | (exfalso
                 have e : pAns (-1) none = -1000000 := rfl
                 omega)
            · have hK := hl2 K l rfl
              have e1 : pAns (-1) (some (K, l)) = K := rfl
              rw [pAns_1]
              first
              | (rw [if_pos (by omega), e1]; done)
              | (exfalso; omega)
              | (rw [if_neg (by omega), if_pos (by omega)]
                 have := hK.2 w.toNat (by omega)
                 rw [show ((w.toNat : Nat) : Int) = w by omega] at this
                 exact this.symm)
              | (rw [if_neg (by omega), if_neg (by omega)]; done)
      · refine q_ldc (pc := 28) (n := -1000001) kX7_66 dX7_plan_28 ?_
        refine q_ri (pc := 30) dX7_plan_30 rfl ?_
        refine pC.q0 hC ?_
        repeat' (first | rw [if_neg (by omega)] | rw [if_pos (by omega)])
  · refine q_ldc (pc := 10) (n := -1000002) kX7_137 dX7_plan_10 ?_
    refine q_ri (pc := 12) dX7_plan_12 rfl ?_
    refine pC.q0 hC ?_
    repeat' (first | rw [if_neg (by omega)] | rw [if_pos (by omega)])
end T2
