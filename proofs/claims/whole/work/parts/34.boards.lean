/-! ===== the best of many ways; boards ===== -/
def mSel (P : Int → Prop) [DecidablePred P] (c : Int → Int) : Nat → Int × Int
  | 0 => (-1000000, -1000000)
  | k + 1 => if ((mSel P c k).1 = -1000000 ∨ c k < (mSel P c k).2) ∧ P k then ((k : Int), c k) else mSel P c k
theorem mSel_in (P : Int → Prop) [DecidablePred P] (c : Int → Int) : ∀ k : Nat, ((mSel P c k).1 = -1000000 ∧ (mSel P c k).2 = -1000000) ∨ (0 ≤ (mSel P c k).1 ∧ (mSel P c k).1 < k ∧ (mSel P c k).2 = c (mSel P c k).1 ∧ P (mSel P c k).1)
  | 0 => Or.inl ⟨rfl, rfl⟩
  | k + 1 => by
    have ih := mSel_in P c k
    unfold mSel
    split
    · rename_i h
      exact Or.inr ⟨by simp only; omega, by simp only; omega, rfl, h.2⟩
    · rcases ih with q | q
      · exact Or.inl q
      · exact Or.inr ⟨q.1, by omega, q.2.2⟩
theorem mSel_y {P : Int → Prop} [DecidablePred P] {c : Int → Int} {k : Nat} (h : (mSel P c k).1 = -1000000 ∨ c k < (mSel P c k).2) (h2 : P k) : mSel P c (k + 1) = ((k : Int), c k) := if_pos ⟨h, h2⟩
theorem mSel_n {P : Int → Prop} [DecidablePred P] {c : Int → Int} {k : Nat} (h : ¬ (((mSel P c k).1 = -1000000 ∨ c k < (mSel P c k).2) ∧ P k)) : mSel P c (k + 1) = mSel P c k := if_neg h
def bw (k w : Int) : Int := if w = 0 then k / 16 else if w = 1 then k / 4 % 4 else k % 4
def bC (k : Int) : Int := k / 16 + k / 4 % 4 + k % 4
def mB3 (f : Int → Int) (a b c : Int) : Int → Int := u1 (u1 (u1 f 10 (f 10 - a)) 11 (f 11 - b)) 12 (f 12 - c)
abbrev bPr (f : Int → Int) (n : Nat) (k : Int) : Prop := (k / 16 ≤ f 10 ∧ k / 4 % 4 ≤ f 11 ∧ k % 4 ≤ f 12) ∧ mLevel (mHours n (mB3 f (k / 16) (k / 4 % 4) (k % 4)))
def bS (f : Int → Int) (n : Nat) (k : Nat) : Int × Int := mSel (bPr f n) bC k
theorem bS_in (f : Int → Int) (n k : Nat) : ((bS f n k).1 = -1000000 ∧ (bS f n k).2 = -1000000) ∨ (0 ≤ (bS f n k).1 ∧ (bS f n k).1 < k ∧ (bS f n k).2 = (bS f n k).1 / 16 + (bS f n k).1 / 4 % 4 + (bS f n k).1 % 4) := by
  rcases mSel_in (bPr f n) bC k with q | q
  · exact Or.inl q
  · exact Or.inr ⟨q.1, q.2.1, q.2.2.1⟩
theorem bS_y {f : Int → Int} {n k : Nat} (h : (bS f n k).1 = -1000000 ∨ (k : Int) / 16 + (k : Int) / 4 % 4 + (k : Int) % 4 < (bS f n k).2) (h2 : (k : Int) / 16 ≤ f 10 ∧ (k : Int) / 4 % 4 ≤ f 11 ∧ (k : Int) % 4 ≤ f 12) (h3 : mLevel (mHours n (mB3 f ((k : Int) / 16) ((k : Int) / 4 % 4) ((k : Int) % 4)))) : bS f n (k + 1) = ((k : Int), (k : Int) / 16 + (k : Int) / 4 % 4 + (k : Int) % 4) := mSel_y (P := bPr f n) (c := bC) h ⟨h2, h3⟩
theorem bS_n {f : Int → Int} {n k : Nat} (h : ¬ ((bS f n k).1 = -1000000 ∨ (k : Int) / 16 + (k : Int) / 4 % 4 + (k : Int) % 4 < (bS f n k).2) ∨ ¬ ((k : Int) / 16 ≤ f 10 ∧ (k : Int) / 4 % 4 ≤ f 11 ∧ (k : Int) % 4 ≤ f 12) ∨ ¬ mLevel (mHours n (mB3 f ((k : Int) / 16) ((k : Int) / 4 % 4) ((k : Int) % 4)))) : bS f n (k + 1) = bS f n k := mSel_n (P := bPr f n) (c := bC) (fun q => by
  rcases h with z | z | z
  · exact z q.1
  · exact z q.2.1
  · exact z q.2.2)
def s_boards (A : qA) (n w : Int) : Int × qA := (if A.1 0 = 1 then (if (1 ≤ n ∧ n ≤ 24) ∧ (-1 ≤ w ∧ w ≤ 2) then (if (bS A.1 n.toNat 64).1 = -1000000 then -1000000 else if w = -1 then (bS A.1 n.toNat 64).2 else bw (bS A.1 n.toNat 64).1 w) else -1000001) else -1000002, A)
theorem way_q : ∀ k : Fin 64, qshr (k : Nat) 4 = ((k : Nat) : Int) / 16 ∧ qand (qshr (k : Nat) 4) 3 = ((k : Nat) : Int) / 16 ∧ qand (qshr (k : Nat) 2) 3 = ((k : Nat) : Int) / 4 % 4 ∧ qand (k : Nat) 3 = ((k : Nat) : Int) % 4 ∧ qand (qshr (k : Nat) 0) 3 = ((k : Nat) : Int) % 4 := by decide +kernel
theorem way_n {k : Nat} (h : k < 64) : qshr k 4 = (k : Int) / 16 ∧ qand (qshr k 4) 3 = (k : Int) / 16 ∧ qand (qshr k 2) 3 = (k : Int) / 4 % 4 ∧ qand k 3 = (k : Int) % 4 ∧ qand (qshr k 0) 3 = (k : Int) % 4 := way_q ⟨k, h⟩
theorem way_i {k : Int} (h0 : 0 ≤ k) (h : k < 64) : qshr k 4 = k / 16 ∧ qand (qshr k 4) 3 = k / 16 ∧ qand (qshr k 2) 3 = k / 4 % 4 ∧ qand k 3 = k % 4 ∧ qand (qshr k 0) 3 = k % 4 := by
  have := way_n (k := k.toNat) (by omega)
  rw [show ((k.toNat : Nat) : Int) = k by omega] at this
  exact this
theorem mB3_o (f : Int → Int) (a b c : Int) {j : Int} (h : j < 10 ∨ 12 < j) : mB3 f a b c j = f j := by
  unfold mB3
  rw [u1_ne (by omega), u1_ne (by omega), u1_ne (by omega)]
theorem mB3_ok {f : Int → Int} (h : mOk f) {a b c : Int} (ha : 0 ≤ a ∧ a ≤ f 10) (hb : 0 ≤ b ∧ b ≤ f 11) (hc : 0 ≤ c ∧ c ≤ f 12) : mOk (mB3 f a b c) := by
  obtain ⟨o1, o2, o3, o4, o5, o6⟩ := h
  exact u1_ok (u1_ok (u1_ok ⟨o1, o2, o3, o4, o5, o6⟩ (fun q => by omega) (fun q => by omega)) (fun q => by omega) (fun q => by omega)) (fun q => by omega) (fun q => by omega)
theorem mHours_c {f g : Int → Int} (h : ∀ j, 0 ≤ j → j < 34 → g j = f j) : ∀ n : Nat, ∀ j, 0 ≤ j → j < 34 → mHours n g j = mHours n f j
  | 0, j, h0, h1 => h j h0 h1
  | n + 1, j, h0, h1 => by
    have ih := mHours_c h n
    show mHour (mHours n g) j = mHour (mHours n f) j
    unfold mHour mRain mLift u1
    simp only [ih 3 (by omega) (by omega), ih 4 (by omega) (by omega)]
    split
    · rfl
    · split
      · simp only [ih 7 (by omega) (by omega), ih 8 (by omega) (by omega), ih 9 (by omega) (by omega), ih 10 (by omega) (by omega), ih 11 (by omega) (by omega), ih 12 (by omega) (by omega), ih j h0 h1, show (7 : Int) + 0 = 7 from rfl, show (7 : Int) + 1 = 8 from rfl, show (7 : Int) + 2 = 9 from rfl]
      · exact ih j h0 h1
section T2
variable {G : qGl} {d : Nat} {σ : qM} {A : qA} {f g : Int → Int}
theorem x_soft {i a : Int} (hS : StR σ 47 g) (hO : mOk g) (h0 : 0 ≤ i) (h2 : i ≤ 2) (ha : 0 ≤ a ∧ a ≤ g (10 + i)) : qE G mX5_soften (d + 1) 0 [(0, vr 47), (1, vi i), (2, vi (-a))] [] σ (rv fun σ1 => Fr σ σ1 [49] ∧ StR σ1 47 (u1 g (10 + i) (g (10 + i) - a)) ∧ mOk (u1 g (10 + i) (g (10 + i) - a))) := by
  have hs := hO.s h0 h2
  have e : c9 (g (10 + i) + -a) = g (10 + i) - a := by unfold c9; split <;> (try split) <;> omega
  rw [← e]
  exact t_X5_soften st47 hS hO h0 h2 (by omega)
theorem x_share {a b c : Int} : qE G mX2_share d 0 [(0, vr 46), (1, vi a), (2, vi b), (3, vi c)] [] σ (ri fun r σ1 => a + b + c = r ∧ Fr σ σ1 [51] ∧ σ1 51 0 = a ∧ σ1 51 1 = b ∧ σ1 51 2 = c) := by
  refine q_aload_n (pc := 0) dX2_share_0 rfl ?_
  refine q_getR (pc := 1) dX2_share_1 fX2_22 rfl rfl ?_
  refine q_iconst (pc := 4) dX2_share_4 ?_
  refine q_iload_n (pc := 5) dX2_share_5 rfl ?_
  refine q_iast (pc := 6) dX2_share_6 rfl (by omega) ?_
  refine q_aload_n (pc := 7) dX2_share_7 rfl ?_
  refine q_getR (pc := 8) dX2_share_8 fX2_22 rfl rfl ?_
  refine q_iconst (pc := 11) dX2_share_11 ?_
  refine q_iload_n (pc := 12) dX2_share_12 rfl ?_
  refine q_iast (pc := 13) dX2_share_13 rfl (by omega) ?_
  refine q_aload_n (pc := 14) dX2_share_14 rfl ?_
  refine q_getR (pc := 15) dX2_share_15 fX2_22 rfl rfl ?_
  refine q_iconst (pc := 18) dX2_share_18 ?_
  refine q_iload_n (pc := 19) dX2_share_19 rfl ?_
  refine q_iast (pc := 20) dX2_share_20 rfl (by omega) ?_
  refine q_iload_n (pc := 21) dX2_share_21 rfl ?_
  refine q_iload_n (pc := 22) dX2_share_22 rfl ?_
  refine q_iadd (pc := 23) dX2_share_23 ?_
  refine q_iload_n (pc := 24) dX2_share_24 rfl ?_
  refine q_iadd (pc := 25) dX2_share_25 ?_
  refine q_ri (pc := 26) dX2_share_26 rfl ?_
  refine ⟨rfl, Fr.tt (Fr.tt (Fr.up (by simp)) (Fr.up (by simp))) (Fr.up (by simp)), ?_, ?_, ?_⟩ <;> simp [up_same]
abbrev sF : List Nat := [48, 49, 51, 53, 54]
theorem x_boards_l {n : Int} (hs0 : SiR σ 15 f) (hR : Row f) (h1 : f 0 = 1) (hn : 1 ≤ n ∧ n ≤ 24) : ∀ (m k : Nat) (σ' : qM), m + k = 64 → Fr σ σ' sF → ((bS f n.toNat k).1 ≠ -1000000 → ∀ w, 0 ≤ w → w ≤ 2 → σ' 51 w = bw (bS f n.toNat k).1 w) → qE G mX2_fewestBoards (d + 6) 13 [(5, vi k), (4, vi (bS f n.toNat k).2), (3, vi (mRains f n)), (0, vr 46), (1, vr 15), (2, vi n)] [] σ' (ri fun r σ1 => (bS f n.toNat 64).2 = r ∧ Fr σ σ1 sF ∧ ((bS f n.toNat 64).1 ≠ -1000000 → ∀ w, 0 ≤ w → w ≤ 2 → σ1 51 w = bw (bS f n.toNat 64).1 w)) := by
  intro m
  induction m with
  | zero =>
    intro k σ' hk hF hw
    refine q_iload (pc := 13) dX2_fewestBoards_13 rfl ?_
    refine q_bipush (pc := 15) dX2_fewestBoards_15 (by decide +kernel) ?_
    refine q_icmpge (pc := 17) (tgt := 182) dX2_fewestBoards_17 (by decide) (by omega) (by omega) (fun h17 => ?_) (fun h => absurd h (by omega))
    refine q_iload (pc := 182) dX2_fewestBoards_182 rfl ?_
    refine q_ri (pc := 184) dX2_fewestBoards_184 rfl ?_
    rw [show k = 64 by omega] at hw ⊢
    exact ⟨rfl, hF, hw⟩
  | succ m ih =>
    intro k σ' hk hF hw
    have hs := hs0.fr hF (fun j a b => by simp; omega)
    have hS : StR σ' 19 f := hs.2.2.1
    obtain ⟨z1, z2, z3, z4, z5, z6⟩ := hS
    have z4 : σ' 21 0 = f 10 := z4
    have z5 : σ' 21 1 = f 11 := z5
    have z6 : σ' 21 2 = f 12 := z6
    have hS : StR σ' 19 f := hs.2.2.1
    have hO := hR.1
    obtain ⟨o1, o2, o3, o4, o5, o6⟩ := hO
    have hO := hR.1
    have hW := way_n (k := k) (by omega)
    obtain ⟨w1, w2, w3, w4, w5⟩ := hW
    have hin := bS_in f n.toNat k
    have hl := hR.law h1
    have hr := mRains_in (f := f) (n := n) hl.2.2.1.1 hR.2.1.1 (by omega)
    have hsel : -1000000 ≤ (bS f n.toNat k).2 ∧ (bS f n.toNat k).2 ≤ 100 := by omega
    have hno : (bS f n.toNat k).2 = -1000000 ↔ (bS f n.toNat k).1 = -1000000 := by omega
    refine q_iload (pc := 13) dX2_fewestBoards_13 rfl ?_
    refine q_bipush (pc := 15) dX2_fewestBoards_15 (by decide +kernel) ?_
    refine q_icmpge (pc := 17) (tgt := 182) dX2_fewestBoards_17 (by decide) (by omega) (by omega) (fun h => absurd h (by omega)) (fun h17 => ?_)
    refine q_iload (pc := 20) dX2_fewestBoards_20 rfl ?_
    refine q_iconst (pc := 22) dX2_fewestBoards_22 ?_
    refine q_ishr (pc := 23) dX2_fewestBoards_23 ?_
    refine q_iconst (pc := 24) dX2_fewestBoards_24 ?_
    refine q_iand (pc := 25) dX2_fewestBoards_25 ?_
    refine q_istore (pc := 26) dX2_fewestBoards_26 (Nat.le_of_ble_eq_true rfl) ?_
    refine q_iload (pc := 28) dX2_fewestBoards_28 rfl ?_
    refine q_iconst (pc := 30) dX2_fewestBoards_30 ?_
    refine q_ishr (pc := 31) dX2_fewestBoards_31 ?_
    refine q_iconst (pc := 32) dX2_fewestBoards_32 ?_
    refine q_iand (pc := 33) dX2_fewestBoards_33 ?_
    refine q_istore (pc := 34) dX2_fewestBoards_34 (Nat.le_of_ble_eq_true rfl) ?_
    refine q_iload (pc := 36) dX2_fewestBoards_36 rfl ?_
    refine q_iconst (pc := 38) dX2_fewestBoards_38 ?_
    refine q_iand (pc := 39) dX2_fewestBoards_39 ?_
    refine q_istore (pc := 40) dX2_fewestBoards_40 (Nat.le_of_ble_eq_true rfl) ?_
    refine q_aload_n (pc := 42) dX2_fewestBoards_42 rfl ?_
    refine q_getR (pc := 43) dX2_fewestBoards_43 fX2_50 rfl rfl ?_
    refine q_getR (pc := 46) dX2_fewestBoards_46 fX2_99 rfl rfl ?_
    refine q_astore (pc := 49) dX2_fewestBoards_49 (Nat.le_of_ble_eq_true rfl) ?_
    refine q_iload (pc := 51) dX2_fewestBoards_51 rfl ?_
    refine q_aload (pc := 53) dX2_fewestBoards_53 rfl ?_
    refine q_iconst (pc := 55) dX2_fewestBoards_55 ?_
    refine q_iald (pc := 56) dX2_fewestBoards_56 rfl (by omega) ?_
    refine q_icmpgt (pc := 57) (tgt := 176) dX2_fewestBoards_57 (by decide) (by omega) (by omega) (fun h57 => ?_) (fun h57 => ?_)
    · refine q_iinc (pc := 176) dX2_fewestBoards_176 rfl (Nat.le_of_ble_eq_true rfl) ?_
      refine q_goto (pc := 179) (tgt := 13) dX2_fewestBoards_179 (by decide) ?_
      first
      | (have e : bS f n.toNat (k + 1) = bS f n.toNat k := bS_n (by first | exact Or.inl (by omega) | exact Or.inr (Or.inl (by omega)))
         have q := ih (k + 1) σ' (by omega) hF (by rw [e]; exact hw)
         rw [e] at q
         exact q_locs _ [0, 5, 6, 7, 8, 9] rfl q)
      | (have e : bS f n.toNat (k + 1) = bS f n.toNat k := bS_n (Or.inr (Or.inr (by assumption)))
         have q := ih (k + 1) σ0 (by omega) (hF.tt hFx) (by rw [e, hFx51]; exact hw)
         rw [e] at q
         exact q_locs _ [0, 5, 6, 7, 8, 9] rfl q)
      | (have e : bS f n.toNat (k + 1) = ((k : Int), (k : Int) / 16 + (k : Int) / 4 % 4 + (k : Int) % 4) := bS_y (by omega) (by omega) (by assumption)
         have q := ih (k + 1) σ0 (by omega) ((hF.tt hFx).tt (hF0.wk (by simp))) (by
           rw [e]
           intro _ w a b
           rcases (show w = 0 ∨ w = 1 ∨ w = 2 by omega) with rfl | rfl | rfl
           · rw [hsh0.1, w2]; rfl
           · rw [hsh0.2.1, w3]; rfl
           · rw [hsh0.2.2, w4]; rfl)
         rw [e] at q
         rw [w2, w3, w4]
         exact q_locs _ [0, 5, 6, 7, 8, 9] rfl q)
    · refine q_iload (pc := 60) dX2_fewestBoards_60 rfl ?_
      refine q_aload (pc := 62) dX2_fewestBoards_62 rfl ?_
      refine q_iconst (pc := 64) dX2_fewestBoards_64 ?_
      refine q_iald (pc := 65) dX2_fewestBoards_65 rfl (by omega) ?_
      refine q_icmpgt (pc := 66) (tgt := 176) dX2_fewestBoards_66 (by decide) (by omega) (by omega) (fun h66 => ?_) (fun h66 => ?_)
      · refine q_iinc (pc := 176) dX2_fewestBoards_176 rfl (Nat.le_of_ble_eq_true rfl) ?_
        refine q_goto (pc := 179) (tgt := 13) dX2_fewestBoards_179 (by decide) ?_
        first
        | (have e : bS f n.toNat (k + 1) = bS f n.toNat k := bS_n (by first | exact Or.inl (by omega) | exact Or.inr (Or.inl (by omega)))
           have q := ih (k + 1) σ' (by omega) hF (by rw [e]; exact hw)
           rw [e] at q
           exact q_locs _ [0, 5, 6, 7, 8, 9] rfl q)
        | (have e : bS f n.toNat (k + 1) = bS f n.toNat k := bS_n (Or.inr (Or.inr (by assumption)))
           have q := ih (k + 1) σ0 (by omega) (hF.tt hFx) (by rw [e, hFx51]; exact hw)
           rw [e] at q
           exact q_locs _ [0, 5, 6, 7, 8, 9] rfl q)
        | (have e : bS f n.toNat (k + 1) = ((k : Int), (k : Int) / 16 + (k : Int) / 4 % 4 + (k : Int) % 4) := bS_y (by omega) (by omega) (by assumption)
           have q := ih (k + 1) σ0 (by omega) ((hF.tt hFx).tt (hF0.wk (by simp))) (by
             rw [e]
             intro _ w a b
             rcases (show w = 0 ∨ w = 1 ∨ w = 2 by omega) with rfl | rfl | rfl
             · rw [hsh0.1, w2]; rfl
             · rw [hsh0.2.1, w3]; rfl
             · rw [hsh0.2.2, w4]; rfl)
           rw [e] at q
           rw [w2, w3, w4]
           exact q_locs _ [0, 5, 6, 7, 8, 9] rfl q)
      · refine q_iload (pc := 69) dX2_fewestBoards_69 rfl ?_
        refine q_aload (pc := 71) dX2_fewestBoards_71 rfl ?_
        refine q_iconst (pc := 73) dX2_fewestBoards_73 ?_
        refine q_iald (pc := 74) dX2_fewestBoards_74 rfl (by omega) ?_
        refine q_icmple (pc := 75) (tgt := 81) dX2_fewestBoards_75 (by decide) (by omega) (by omega) (fun h75 => ?_) (fun h75 => ?_)
        · refine q_iload (pc := 81) dX2_fewestBoards_81 rfl ?_
          refine q_ldc (pc := 83) (n := -1000000) kX2_69 dX2_fewestBoards_83 ?_
          refine q_icmpeq (pc := 85) (tgt := 104) dX2_fewestBoards_85 (by decide) (by omega) (by omega) (fun h85 => ?_) (fun h85 => ?_)
          · refine q_aload_n (pc := 104) dX2_fewestBoards_104 rfl ?_
            refine q_getR (pc := 105) dX2_fewestBoards_105 fX2_12 rfl rfl ?_
            refine q_aload_n (pc := 108) dX2_fewestBoards_108 rfl ?_
            refine q_getR (pc := 109) dX2_fewestBoards_109 fX2_50 rfl rfl ?_
            refine q_V1v (pc := 112) dX2_fewestBoards_112 vX2_42 rfl rfl (Nat.le_of_ble_eq_true rfl) (Nat.le_of_ble_eq_true rfl) (t_X5_copyFrom st47 st19 hS) (fun σ1 hc1 => ?_)
            obtain ⟨hF1, hS1⟩ := hc1
            refine q_aload_n (pc := 115) dX2_fewestBoards_115 rfl ?_
            refine q_getR (pc := 116) dX2_fewestBoards_116 fX2_12 rfl rfl ?_
            refine q_iconst (pc := 119) dX2_fewestBoards_119 ?_
            refine q_iload (pc := 120) dX2_fewestBoards_120 rfl ?_
            refine q_ineg (pc := 122) dX2_fewestBoards_122 ?_
            refine q_V2v (pc := 123) dX2_fewestBoards_123 vX2_102 rfl rfl (Nat.le_of_ble_eq_true rfl) (Nat.le_of_ble_eq_true rfl) (x_soft hS1 hO (by omega) (by omega) (by show _ ∧ _ ≤ f 10; omega)) (fun σ2 hc2 => ?_)
            obtain ⟨hFs0, hSs0, hOs0⟩ := hc2
            refine q_aload_n (pc := 126) dX2_fewestBoards_126 rfl ?_
            refine q_getR (pc := 127) dX2_fewestBoards_127 fX2_12 rfl rfl ?_
            refine q_iconst (pc := 130) dX2_fewestBoards_130 ?_
            refine q_iload (pc := 131) dX2_fewestBoards_131 rfl ?_
            refine q_ineg (pc := 133) dX2_fewestBoards_133 ?_
            refine q_V2v (pc := 134) dX2_fewestBoards_134 vX2_102 rfl rfl (Nat.le_of_ble_eq_true rfl) (Nat.le_of_ble_eq_true rfl) (x_soft hSs0 hOs0 (by omega) (by omega) (by show _ ∧ _ ≤ f 11; omega)) (fun σ3 hc3 => ?_)
            obtain ⟨hFs1, hSs1, hOs1⟩ := hc3
            refine q_aload_n (pc := 137) dX2_fewestBoards_137 rfl ?_
            refine q_getR (pc := 138) dX2_fewestBoards_138 fX2_12 rfl rfl ?_
            refine q_iconst (pc := 141) dX2_fewestBoards_141 ?_
            refine q_iload (pc := 142) dX2_fewestBoards_142 rfl ?_
            refine q_ineg (pc := 144) dX2_fewestBoards_144 ?_
            refine q_V2v (pc := 145) dX2_fewestBoards_145 vX2_102 rfl rfl (Nat.le_of_ble_eq_true rfl) (Nat.le_of_ble_eq_true rfl) (x_soft hSs1 hOs1 (by omega) (by omega) (by show _ ∧ _ ≤ f 12; omega)) (fun σ4 hc4 => ?_)
            obtain ⟨hFs2, hSs2, hOs2⟩ := hc4
            have eg : ∀ j, 0 ≤ j → j < 34 → mB3 f ((k : Int) / 16) ((k : Int) / 4 % 4) ((k : Int) % 4) j = u1 (u1 (u1 f (10 + 0) (f (10 + 0) - qand (qshr k 4) 3)) (10 + 1) (u1 f (10 + 0) (f (10 + 0) - qand (qshr k 4) 3) (10 + 1) - qand (qshr k 2) 3)) (10 + 2) (u1 (u1 f (10 + 0) (f (10 + 0) - qand (qshr k 4) 3)) (10 + 1) (u1 f (10 + 0) (f (10 + 0) - qand (qshr k 4) 3) (10 + 1) - qand (qshr k 2) 3) (10 + 2) - qand k 3) j := by
              intro j _ _
              rw [w2, w3, w4]
              rfl
            have hg4 : mOk (mB3 f ((k : Int) / 16) ((k : Int) / 4 % 4) ((k : Int) % 4)) := mB3_ok hO (by omega) (by omega) (by omega)
            have hSg := hSs2.congr (fun j a b => eg j (by omega) (by omega))
            have hlg : mB3 f ((k : Int) / 16) ((k : Int) / 4 % 4) ((k : Int) % 4) 3 = f 3 ∧ mB3 f ((k : Int) / 16) ((k : Int) / 4 % 4) ((k : Int) % 4) 4 = f 4 := ⟨mB3_o _ _ _ _ (by omega), mB3_o _ _ _ _ (by omega)⟩
            refine q_aload_n (pc := 148) dX2_fewestBoards_148 rfl ?_
            refine q_aload_n (pc := 149) dX2_fewestBoards_149 rfl ?_
            refine q_aload_n (pc := 150) dX2_fewestBoards_150 rfl ?_
            refine q_getR (pc := 151) dX2_fewestBoards_151 fX2_12 rfl rfl ?_
            refine q_iload_n (pc := 154) dX2_fewestBoards_154 rfl ?_
            refine q_V2r (pc := 155) dX2_fewestBoards_155 vX2_38 rfl rfl (Nat.le_of_ble_eq_true rfl) (Nat.le_of_ble_eq_true rfl) (t_X2_sunkBy st47 hSg hg4 (by omega)) (fun r5 σ5 hc5 => ?_)
            obtain ⟨rfl, hF5, hS5, hO5⟩ := hc5
            have hFx : Fr σ' σ5 sF := ((((hF1.wk (by simp)).tt (hFs0.wk (by simp))).tt (hFs1.wk (by simp))).tt (hFs2.wk (by simp))).tt (hF5.wk (by simp))
            have hFx51 : σ5 51 = σ' 51 := by rw [hF5 51 (by simp), hFs2 51 (by simp), hFs1 51 (by simp), hFs0 51 (by simp), hF1 51 (by simp)]
            have erx : mRains (mB3 f ((k : Int) / 16) ((k : Int) / 4 % 4) ((k : Int) % 4)) n.toNat = mRains f n := by
              unfold mRains
              rw [hlg.1, hlg.2, show ((n.toNat : Nat) : Int) = n by omega]
            have hSh : StR σ5 52 (mHours n.toNat (mB3 f ((k : Int) / 16) ((k : Int) / 4 % 4) ((k : Int) % 4))) := hS5.congr (fun j a b => by
              rw [← erx]
              exact sink_hours (f := mB3 f ((k : Int) / 16) ((k : Int) / 4 % 4) ((k : Int) % 4)) hg4 (by rw [hlg.1]; exact hl.2.2.1) (by rw [hlg.2]; exact hR.2.1.1) n.toNat j a b)
            refine q_V1i (pc := 158) dX2_fewestBoards_158 vX2_57 rfl rfl (Nat.le_of_ble_eq_true rfl) (Nat.le_of_ble_eq_true rfl) (t_X4_isLevel si15 st52 (hs.fr hFx (fun j a b => by simp; omega)) hR h1 hSh (mHours_ok hg4 _) ⟨by rw [mHours_o _ (by omega), mB3_o _ _ _ _ (by omega)], by rw [mHours_o _ (by omega), mB3_o _ _ _ _ (by omega)]⟩) (fun r6 σ6 hc6 => ?_)
            obtain ⟨rfl, rfl⟩ := hc6
            refine q_ifeqb (pc := 161) (tgt := 176) dX2_fewestBoards_161 (by decide) (fun h161 => ?_) (fun h161 => ?_)
            · refine q_iinc (pc := 176) dX2_fewestBoards_176 rfl (Nat.le_of_ble_eq_true rfl) ?_
              refine q_goto (pc := 179) (tgt := 13) dX2_fewestBoards_179 (by decide) ?_
              first
              | (have e : bS f n.toNat (k + 1) = bS f n.toNat k := bS_n (by first | exact Or.inl (by omega) | exact Or.inr (Or.inl (by omega)))
                 have q := ih (k + 1) σ' (by omega) hF (by rw [e]; exact hw)
                 rw [e] at q
                 exact q_locs _ [0, 5, 6, 7, 8, 9] rfl q)
              | (have e : bS f n.toNat (k + 1) = bS f n.toNat k := bS_n (Or.inr (Or.inr (by assumption)))
                 have q := ih (k + 1) σ5 (by omega) (hF.tt hFx) (by rw [e, hFx51]; exact hw)
                 rw [e] at q
                 exact q_locs _ [0, 5, 6, 7, 8, 9] rfl q)
              | (have e : bS f n.toNat (k + 1) = ((k : Int), (k : Int) / 16 + (k : Int) / 4 % 4 + (k : Int) % 4) := bS_y (by omega) (by omega) (by assumption)
                 have q := ih (k + 1) σ6 (by omega) ((hF.tt hFx).tt (hF6.wk (by simp))) (by
                   rw [e]
                   intro _ w a b
                   rcases (show w = 0 ∨ w = 1 ∨ w = 2 by omega) with rfl | rfl | rfl
                   · rw [hsh6.1, w2]; rfl
                   · rw [hsh6.2.1, w3]; rfl
                   · rw [hsh6.2.2, w4]; rfl)
                 rw [e] at q
                 rw [w2, w3, w4]
                 exact q_locs _ [0, 5, 6, 7, 8, 9] rfl q)
            · refine q_aload_n (pc := 164) dX2_fewestBoards_164 rfl ?_
              refine q_iload (pc := 165) dX2_fewestBoards_165 rfl ?_
              refine q_iload (pc := 167) dX2_fewestBoards_167 rfl ?_
              refine q_iload (pc := 169) dX2_fewestBoards_169 rfl ?_
              refine q_V3i (pc := 171) dX2_fewestBoards_171 vX2_106 rfl rfl (Nat.le_of_ble_eq_true rfl) (Nat.le_of_ble_eq_true rfl) (x_share) (fun r7 σ7 hc7 => ?_)
              obtain ⟨rfl, hF7, hsh7⟩ := hc7
              refine q_istore (pc := 174) dX2_fewestBoards_174 (Nat.le_of_ble_eq_true rfl) ?_
              refine q_iinc (pc := 176) dX2_fewestBoards_176 rfl (Nat.le_of_ble_eq_true rfl) ?_
              refine q_goto (pc := 179) (tgt := 13) dX2_fewestBoards_179 (by decide) ?_
              first
              | (have e : bS f n.toNat (k + 1) = bS f n.toNat k := bS_n (by first | exact Or.inl (by omega) | exact Or.inr (Or.inl (by omega)))
                 have q := ih (k + 1) σ' (by omega) hF (by rw [e]; exact hw)
                 rw [e] at q
                 exact q_locs _ [0, 1, 6, 7, 8, 9] rfl q)
              | (have e : bS f n.toNat (k + 1) = bS f n.toNat k := bS_n (Or.inr (Or.inr (by assumption)))
                 have q := ih (k + 1) σ5 (by omega) (hF.tt hFx) (by rw [e, hFx51]; exact hw)
                 rw [e] at q
                 exact q_locs _ [0, 1, 6, 7, 8, 9] rfl q)
              | (have e : bS f n.toNat (k + 1) = ((k : Int), (k : Int) / 16 + (k : Int) / 4 % 4 + (k : Int) % 4) := bS_y (by omega) (by omega) (by assumption)
                 have q := ih (k + 1) σ7 (by omega) ((hF.tt hFx).tt (hF7.wk (by simp))) (by
                   rw [e]
                   intro _ w a b
                   rcases (show w = 0 ∨ w = 1 ∨ w = 2 by omega) with rfl | rfl | rfl
                   · rw [hsh7.1, w2]; rfl
                   · rw [hsh7.2.1, w3]; rfl
                   · rw [hsh7.2.2, w4]; rfl)
                 rw [e] at q
                 rw [w2, w3, w4]
                 exact q_locs _ [0, 1, 6, 7, 8, 9] rfl q)
          · refine q_iload (pc := 88) dX2_fewestBoards_88 rfl ?_
            refine q_iload (pc := 90) dX2_fewestBoards_90 rfl ?_
            refine q_iadd (pc := 92) dX2_fewestBoards_92 ?_
            refine q_iload (pc := 93) dX2_fewestBoards_93 rfl ?_
            refine q_iadd (pc := 95) dX2_fewestBoards_95 ?_
            refine q_iload (pc := 96) dX2_fewestBoards_96 rfl ?_
            refine q_icmplt (pc := 98) (tgt := 104) dX2_fewestBoards_98 (by decide) (by omega) (by omega) (fun h98 => ?_) (fun h98 => ?_)
            · refine q_aload_n (pc := 104) dX2_fewestBoards_104 rfl ?_
              refine q_getR (pc := 105) dX2_fewestBoards_105 fX2_12 rfl rfl ?_
              refine q_aload_n (pc := 108) dX2_fewestBoards_108 rfl ?_
              refine q_getR (pc := 109) dX2_fewestBoards_109 fX2_50 rfl rfl ?_
              refine q_V1v (pc := 112) dX2_fewestBoards_112 vX2_42 rfl rfl (Nat.le_of_ble_eq_true rfl) (Nat.le_of_ble_eq_true rfl) (t_X5_copyFrom st47 st19 hS) (fun σ8 hc8 => ?_)
              obtain ⟨hF8, hS8⟩ := hc8
              refine q_aload_n (pc := 115) dX2_fewestBoards_115 rfl ?_
              refine q_getR (pc := 116) dX2_fewestBoards_116 fX2_12 rfl rfl ?_
              refine q_iconst (pc := 119) dX2_fewestBoards_119 ?_
              refine q_iload (pc := 120) dX2_fewestBoards_120 rfl ?_
              refine q_ineg (pc := 122) dX2_fewestBoards_122 ?_
              refine q_V2v (pc := 123) dX2_fewestBoards_123 vX2_102 rfl rfl (Nat.le_of_ble_eq_true rfl) (Nat.le_of_ble_eq_true rfl) (x_soft hS8 hO (by omega) (by omega) (by show _ ∧ _ ≤ f 10; omega)) (fun σ9 hc9 => ?_)
              obtain ⟨hFs0, hSs0, hOs0⟩ := hc9
              refine q_aload_n (pc := 126) dX2_fewestBoards_126 rfl ?_
              refine q_getR (pc := 127) dX2_fewestBoards_127 fX2_12 rfl rfl ?_
              refine q_iconst (pc := 130) dX2_fewestBoards_130 ?_
              refine q_iload (pc := 131) dX2_fewestBoards_131 rfl ?_
              refine q_ineg (pc := 133) dX2_fewestBoards_133 ?_
              refine q_V2v (pc := 134) dX2_fewestBoards_134 vX2_102 rfl rfl (Nat.le_of_ble_eq_true rfl) (Nat.le_of_ble_eq_true rfl) (x_soft hSs0 hOs0 (by omega) (by omega) (by show _ ∧ _ ≤ f 11; omega)) (fun σ10 hc10 => ?_)
              obtain ⟨hFs1, hSs1, hOs1⟩ := hc10
              refine q_aload_n (pc := 137) dX2_fewestBoards_137 rfl ?_
              refine q_getR (pc := 138) dX2_fewestBoards_138 fX2_12 rfl rfl ?_
              refine q_iconst (pc := 141) dX2_fewestBoards_141 ?_
              refine q_iload (pc := 142) dX2_fewestBoards_142 rfl ?_
              refine q_ineg (pc := 144) dX2_fewestBoards_144 ?_
              refine q_V2v (pc := 145) dX2_fewestBoards_145 vX2_102 rfl rfl (Nat.le_of_ble_eq_true rfl) (Nat.le_of_ble_eq_true rfl) (x_soft hSs1 hOs1 (by omega) (by omega) (by show _ ∧ _ ≤ f 12; omega)) (fun σ11 hc11 => ?_)
              obtain ⟨hFs2, hSs2, hOs2⟩ := hc11
              have eg : ∀ j, 0 ≤ j → j < 34 → mB3 f ((k : Int) / 16) ((k : Int) / 4 % 4) ((k : Int) % 4) j = u1 (u1 (u1 f (10 + 0) (f (10 + 0) - qand (qshr k 4) 3)) (10 + 1) (u1 f (10 + 0) (f (10 + 0) - qand (qshr k 4) 3) (10 + 1) - qand (qshr k 2) 3)) (10 + 2) (u1 (u1 f (10 + 0) (f (10 + 0) - qand (qshr k 4) 3)) (10 + 1) (u1 f (10 + 0) (f (10 + 0) - qand (qshr k 4) 3) (10 + 1) - qand (qshr k 2) 3) (10 + 2) - qand k 3) j := by
                intro j _ _
                rw [w2, w3, w4]
                rfl
              have hg4 : mOk (mB3 f ((k : Int) / 16) ((k : Int) / 4 % 4) ((k : Int) % 4)) := mB3_ok hO (by omega) (by omega) (by omega)
              have hSg := hSs2.congr (fun j a b => eg j (by omega) (by omega))
              have hlg : mB3 f ((k : Int) / 16) ((k : Int) / 4 % 4) ((k : Int) % 4) 3 = f 3 ∧ mB3 f ((k : Int) / 16) ((k : Int) / 4 % 4) ((k : Int) % 4) 4 = f 4 := ⟨mB3_o _ _ _ _ (by omega), mB3_o _ _ _ _ (by omega)⟩
              refine q_aload_n (pc := 148) dX2_fewestBoards_148 rfl ?_
              refine q_aload_n (pc := 149) dX2_fewestBoards_149 rfl ?_
              refine q_aload_n (pc := 150) dX2_fewestBoards_150 rfl ?_
              refine q_getR (pc := 151) dX2_fewestBoards_151 fX2_12 rfl rfl ?_
              refine q_iload_n (pc := 154) dX2_fewestBoards_154 rfl ?_
              refine q_V2r (pc := 155) dX2_fewestBoards_155 vX2_38 rfl rfl (Nat.le_of_ble_eq_true rfl) (Nat.le_of_ble_eq_true rfl) (t_X2_sunkBy st47 hSg hg4 (by omega)) (fun r12 σ12 hc12 => ?_)
              obtain ⟨rfl, hF12, hS12, hO12⟩ := hc12
              have hFx : Fr σ' σ12 sF := ((((hF8.wk (by simp)).tt (hFs0.wk (by simp))).tt (hFs1.wk (by simp))).tt (hFs2.wk (by simp))).tt (hF12.wk (by simp))
              have hFx51 : σ12 51 = σ' 51 := by rw [hF12 51 (by simp), hFs2 51 (by simp), hFs1 51 (by simp), hFs0 51 (by simp), hF8 51 (by simp)]
              have erx : mRains (mB3 f ((k : Int) / 16) ((k : Int) / 4 % 4) ((k : Int) % 4)) n.toNat = mRains f n := by
                unfold mRains
                rw [hlg.1, hlg.2, show ((n.toNat : Nat) : Int) = n by omega]
              have hSh : StR σ12 52 (mHours n.toNat (mB3 f ((k : Int) / 16) ((k : Int) / 4 % 4) ((k : Int) % 4))) := hS12.congr (fun j a b => by
                rw [← erx]
                exact sink_hours (f := mB3 f ((k : Int) / 16) ((k : Int) / 4 % 4) ((k : Int) % 4)) hg4 (by rw [hlg.1]; exact hl.2.2.1) (by rw [hlg.2]; exact hR.2.1.1) n.toNat j a b)
              refine q_V1i (pc := 158) dX2_fewestBoards_158 vX2_57 rfl rfl (Nat.le_of_ble_eq_true rfl) (Nat.le_of_ble_eq_true rfl) (t_X4_isLevel si15 st52 (hs.fr hFx (fun j a b => by simp; omega)) hR h1 hSh (mHours_ok hg4 _) ⟨by rw [mHours_o _ (by omega), mB3_o _ _ _ _ (by omega)], by rw [mHours_o _ (by omega), mB3_o _ _ _ _ (by omega)]⟩) (fun r13 σ13 hc13 => ?_)
              obtain ⟨rfl, rfl⟩ := hc13
              refine q_ifeqb (pc := 161) (tgt := 176) dX2_fewestBoards_161 (by decide) (fun h161 => ?_) (fun h161 => ?_)
              · refine q_iinc (pc := 176) dX2_fewestBoards_176 rfl (Nat.le_of_ble_eq_true rfl) ?_
                refine q_goto (pc := 179) (tgt := 13) dX2_fewestBoards_179 (by decide) ?_
                first
                | (have e : bS f n.toNat (k + 1) = bS f n.toNat k := bS_n (by first | exact Or.inl (by omega) | exact Or.inr (Or.inl (by omega)))
                   have q := ih (k + 1) σ' (by omega) hF (by rw [e]; exact hw)
                   rw [e] at q
                   exact q_locs _ [0, 5, 6, 7, 8, 9] rfl q)
                | (have e : bS f n.toNat (k + 1) = bS f n.toNat k := bS_n (Or.inr (Or.inr (by assumption)))
                   have q := ih (k + 1) σ12 (by omega) (hF.tt hFx) (by rw [e, hFx51]; exact hw)
                   rw [e] at q
                   exact q_locs _ [0, 5, 6, 7, 8, 9] rfl q)
                | (have e : bS f n.toNat (k + 1) = ((k : Int), (k : Int) / 16 + (k : Int) / 4 % 4 + (k : Int) % 4) := bS_y (by omega) (by omega) (by assumption)
                   have q := ih (k + 1) σ13 (by omega) ((hF.tt hFx).tt (hF13.wk (by simp))) (by
                     rw [e]
                     intro _ w a b
                     rcases (show w = 0 ∨ w = 1 ∨ w = 2 by omega) with rfl | rfl | rfl
                     · rw [hsh13.1, w2]; rfl
                     · rw [hsh13.2.1, w3]; rfl
                     · rw [hsh13.2.2, w4]; rfl)
                   rw [e] at q
                   rw [w2, w3, w4]
                   exact q_locs _ [0, 5, 6, 7, 8, 9] rfl q)
              · refine q_aload_n (pc := 164) dX2_fewestBoards_164 rfl ?_
                refine q_iload (pc := 165) dX2_fewestBoards_165 rfl ?_
                refine q_iload (pc := 167) dX2_fewestBoards_167 rfl ?_
                refine q_iload (pc := 169) dX2_fewestBoards_169 rfl ?_
                refine q_V3i (pc := 171) dX2_fewestBoards_171 vX2_106 rfl rfl (Nat.le_of_ble_eq_true rfl) (Nat.le_of_ble_eq_true rfl) (x_share) (fun r14 σ14 hc14 => ?_)
                obtain ⟨rfl, hF14, hsh14⟩ := hc14
                refine q_istore (pc := 174) dX2_fewestBoards_174 (Nat.le_of_ble_eq_true rfl) ?_
                refine q_iinc (pc := 176) dX2_fewestBoards_176 rfl (Nat.le_of_ble_eq_true rfl) ?_
                refine q_goto (pc := 179) (tgt := 13) dX2_fewestBoards_179 (by decide) ?_
                first
                | (have e : bS f n.toNat (k + 1) = bS f n.toNat k := bS_n (by first | exact Or.inl (by omega) | exact Or.inr (Or.inl (by omega)))
                   have q := ih (k + 1) σ' (by omega) hF (by rw [e]; exact hw)
                   rw [e] at q
                   exact q_locs _ [0, 1, 6, 7, 8, 9] rfl q)
                | (have e : bS f n.toNat (k + 1) = bS f n.toNat k := bS_n (Or.inr (Or.inr (by assumption)))
                   have q := ih (k + 1) σ12 (by omega) (hF.tt hFx) (by rw [e, hFx51]; exact hw)
                   rw [e] at q
                   exact q_locs _ [0, 1, 6, 7, 8, 9] rfl q)
                | (have e : bS f n.toNat (k + 1) = ((k : Int), (k : Int) / 16 + (k : Int) / 4 % 4 + (k : Int) % 4) := bS_y (by omega) (by omega) (by assumption)
                   have q := ih (k + 1) σ14 (by omega) ((hF.tt hFx).tt (hF14.wk (by simp))) (by
                     rw [e]
                     intro _ w a b
                     rcases (show w = 0 ∨ w = 1 ∨ w = 2 by omega) with rfl | rfl | rfl
                     · rw [hsh14.1, w2]; rfl
                     · rw [hsh14.2.1, w3]; rfl
                     · rw [hsh14.2.2, w4]; rfl)
                   rw [e] at q
                   rw [w2, w3, w4]
                   exact q_locs _ [0, 1, 6, 7, 8, 9] rfl q)
            · refine q_goto (pc := 101) (tgt := 176) dX2_fewestBoards_101 (by decide) ?_
              refine q_iinc (pc := 176) dX2_fewestBoards_176 rfl (Nat.le_of_ble_eq_true rfl) ?_
              refine q_goto (pc := 179) (tgt := 13) dX2_fewestBoards_179 (by decide) ?_
              first
              | (have e : bS f n.toNat (k + 1) = bS f n.toNat k := bS_n (by first | exact Or.inl (by omega) | exact Or.inr (Or.inl (by omega)))
                 have q := ih (k + 1) σ' (by omega) hF (by rw [e]; exact hw)
                 rw [e] at q
                 exact q_locs _ [0, 5, 6, 7, 8, 9] rfl q)
              | (have e : bS f n.toNat (k + 1) = bS f n.toNat k := bS_n (Or.inr (Or.inr (by assumption)))
                 have q := ih (k + 1) σ0 (by omega) (hF.tt hFx) (by rw [e, hFx51]; exact hw)
                 rw [e] at q
                 exact q_locs _ [0, 5, 6, 7, 8, 9] rfl q)
              | (have e : bS f n.toNat (k + 1) = ((k : Int), (k : Int) / 16 + (k : Int) / 4 % 4 + (k : Int) % 4) := bS_y (by omega) (by omega) (by assumption)
                 have q := ih (k + 1) σ0 (by omega) ((hF.tt hFx).tt (hF0.wk (by simp))) (by
                   rw [e]
                   intro _ w a b
                   rcases (show w = 0 ∨ w = 1 ∨ w = 2 by omega) with rfl | rfl | rfl
                   · rw [hsh0.1, w2]; rfl
                   · rw [hsh0.2.1, w3]; rfl
                   · rw [hsh0.2.2, w4]; rfl)
                 rw [e] at q
                 rw [w2, w3, w4]
                 exact q_locs _ [0, 5, 6, 7, 8, 9] rfl q)
        · refine q_goto (pc := 78) (tgt := 176) dX2_fewestBoards_78 (by decide) ?_
          refine q_iinc (pc := 176) dX2_fewestBoards_176 rfl (Nat.le_of_ble_eq_true rfl) ?_
          refine q_goto (pc := 179) (tgt := 13) dX2_fewestBoards_179 (by decide) ?_
          first
          | (have e : bS f n.toNat (k + 1) = bS f n.toNat k := bS_n (by first | exact Or.inl (by omega) | exact Or.inr (Or.inl (by omega)))
             have q := ih (k + 1) σ' (by omega) hF (by rw [e]; exact hw)
             rw [e] at q
             exact q_locs _ [0, 5, 6, 7, 8, 9] rfl q)
          | (have e : bS f n.toNat (k + 1) = bS f n.toNat k := bS_n (Or.inr (Or.inr (by assumption)))
             have q := ih (k + 1) σ0 (by omega) (hF.tt hFx) (by rw [e, hFx51]; exact hw)
             rw [e] at q
             exact q_locs _ [0, 5, 6, 7, 8, 9] rfl q)
          | (have e : bS f n.toNat (k + 1) = ((k : Int), (k : Int) / 16 + (k : Int) / 4 % 4 + (k : Int) % 4) := bS_y (by omega) (by omega) (by assumption)
             have q := ih (k + 1) σ0 (by omega) ((hF.tt hFx).tt (hF0.wk (by simp))) (by
               rw [e]
               intro _ w a b
               rcases (show w = 0 ∨ w = 1 ∨ w = 2 by omega) with rfl | rfl | rfl
               · rw [hsh0.1, w2]; rfl
               · rw [hsh0.2.1, w3]; rfl
               · rw [hsh0.2.2, w4]; rfl)
             rw [e] at q
             rw [w2, w3, w4]
             exact q_locs _ [0, 5, 6, 7, 8, 9] rfl q)

theorem x_fewest {n : Int} (hs : SiR σ 15 f) (hR : Row f) (h1 : f 0 = 1) (hn : 1 ≤ n ∧ n ≤ 24) : qE G mX2_fewestBoards (d + 6) 0 [(0, vr 46), (1, vr 15), (2, vi n)] [] σ (ri fun r σ1 => (bS f n.toNat 64).2 = r ∧ Fr σ σ1 sF ∧ ((bS f n.toNat 64).1 ≠ -1000000 → ∀ w, 0 ≤ w → w ≤ 2 → σ1 51 w = bw (bS f n.toNat 64).1 w)) := by
  refine q_aload_n (pc := 0) dX2_fewestBoards_0 rfl ?_
  refine q_iload_n (pc := 1) dX2_fewestBoards_1 rfl ?_
  refine q_V1i (pc := 2) dX2_fewestBoards_2 vX2_32 rfl rfl (Nat.le_of_ble_eq_true rfl) (Nat.le_of_ble_eq_true rfl) (t_X4_rainsWithin si15 hs hR h1 (by omega)) (fun r1 σ1 hc1 => ?_)
  obtain ⟨rfl, rfl⟩ := hc1
  refine q_istore_n (pc := 5) dX2_fewestBoards_5 (Nat.le_of_ble_eq_true rfl) ?_
  refine q_ldc (pc := 6) (n := -1000000) kX2_69 dX2_fewestBoards_6 ?_
  refine q_istore (pc := 8) dX2_fewestBoards_8 (Nat.le_of_ble_eq_true rfl) ?_
  refine q_iconst (pc := 10) dX2_fewestBoards_10 ?_
  refine q_istore (pc := 11) dX2_fewestBoards_11 (Nat.le_of_ble_eq_true rfl) ?_
  exact q_locs _ [0, 1, 2, 3, 4, 5] rfl (x_boards_l hs hR h1 hn 64 0 σ rfl Fr.rf (fun q => absurd rfl q))
theorem x_boards {n w : Int} (hC : CR σ A) (hV : AV A) (hn : -2147483648 ≤ n ∧ n ≤ 2147483647) (hw : -2147483648 ≤ w ∧ w ≤ 2147483647) : qE G mX7_boards (d + 7) 0 [(0, vr 0), (1, vi n), (2, vi w)] [] σ (ri (pC σ (s_boards A n w))) := by
  have hR := hV.1
  have h01 := hR.f0
  have e0 := hC.1.1.1
  have hin := bS_in A.1 n.toNat 64
  refine q_aload_n (pc := 0) dX7_boards_0 rfl ?_
  refine q_getR (pc := 1) dX7_boards_1 fX7_26 rfl rfl ?_
  refine q_gI (pc := 4) 0 dX7_boards_4 fX7_141 rfl rfl rfl ?_
  refine q_ifne (pc := 7) (tgt := 13) dX7_boards_7 (by decide) (by omega) (fun h7 => ?_) (fun h7 => ?_)
  · refine q_iload_n (pc := 13) dX7_boards_13 rfl ?_
    refine q_iconst (pc := 14) dX7_boards_14 ?_
    refine q_bipush (pc := 15) dX7_boards_15 (by decide +kernel) ?_
    refine q_S3i (pc := 17) dX7_boards_17 vX7_62 (Nat.le_of_ble_eq_true rfl) (Nat.le_of_ble_eq_true rfl) (t_X7_isWithin (by omega) (by omega) (by omega)) (fun r1 σ1 hc1 => ?_)
    obtain ⟨rfl, rfl⟩ := hc1
    refine q_ifeqb (pc := 20) (tgt := 33) dX7_boards_20 (by decide) (fun h20 => ?_) (fun h20 => ?_)
    · refine q_ldc (pc := 33) (n := -1000001) kX7_66 dX7_boards_33 ?_
      refine q_ri (pc := 35) dX7_boards_35 rfl ?_
      refine pC.q0 hC ?_
      repeat' (first | rw [if_neg (by omega)] | rw [if_pos (by omega)])
    · refine q_iload_n (pc := 23) dX7_boards_23 rfl ?_
      refine q_iconst (pc := 24) dX7_boards_24 ?_
      refine q_icmplt (pc := 25) (tgt := 33) dX7_boards_25 (by decide) (by omega) (by omega) (fun h25 => ?_) (fun h25 => ?_)
      · refine q_ldc (pc := 33) (n := -1000001) kX7_66 dX7_boards_33 ?_
        refine q_ri (pc := 35) dX7_boards_35 rfl ?_
        refine pC.q0 hC ?_
        repeat' (first | rw [if_neg (by omega)] | rw [if_pos (by omega)])
      · refine q_iload_n (pc := 28) dX7_boards_28 rfl ?_
        refine q_iconst (pc := 29) dX7_boards_29 ?_
        refine q_icmplt (pc := 30) (tgt := 36) dX7_boards_30 (by decide) (by omega) (by omega) (fun h30 => ?_) (fun h30 => ?_)
        · refine q_aload_n (pc := 36) dX7_boards_36 rfl ?_
          refine q_getR (pc := 37) dX7_boards_37 fX7_47 rfl rfl ?_
          refine q_aload_n (pc := 40) dX7_boards_40 rfl ?_
          refine q_getR (pc := 41) dX7_boards_41 fX7_26 rfl rfl ?_
          refine q_iload_n (pc := 44) dX7_boards_44 rfl ?_
          refine q_V2i (pc := 45) dX7_boards_45 vX7_242 rfl rfl (Nat.le_of_ble_eq_true rfl) (Nat.le_of_ble_eq_true rfl) (x_fewest hC.1 hR (by omega) (by omega)) (fun r2 σ2 hc2 => ?_)
          obtain ⟨rfl, hF2, hsh2⟩ := hc2
          refine q_istore_n (pc := 48) dX7_boards_48 (Nat.le_of_ble_eq_true rfl) ?_
          refine q_iload_n (pc := 49) dX7_boards_49 rfl ?_
          refine q_ldc (pc := 50) (n := -1000000) kX7_227 dX7_boards_50 ?_
          refine q_icmpeq (pc := 52) (tgt := 60) dX7_boards_52 (by decide) (by omega) (by omega) (fun h52 => ?_) (fun h52 => ?_)
          · refine q_iload_n (pc := 60) dX7_boards_60 rfl ?_
            refine q_goto (pc := 61) (tgt := 73) dX7_boards_61 (by decide) ?_
            refine q_ri (pc := 73) dX7_boards_73 rfl ?_
            refine pC.q hC hF2 (scr_in (by decide)) ?_
            rw [if_pos (by omega), if_pos (by omega)]
            first
            | (rw [if_pos (by omega)]; omega)
            | (rw [if_neg (by omega), if_pos (by omega)])
            | (rw [if_neg (by omega), if_neg (by omega)]; exact (hsh2 (by omega) w (by omega) (by omega)).symm)
          · refine q_iload_n (pc := 55) dX7_boards_55 rfl ?_
            refine q_iconst (pc := 56) dX7_boards_56 ?_
            refine q_icmpne (pc := 57) (tgt := 64) dX7_boards_57 (by decide) (by omega) (by omega) (fun h57 => ?_) (fun h57 => ?_)
            · refine q_aload_n (pc := 64) dX7_boards_64 rfl ?_
              refine q_getR (pc := 65) dX7_boards_65 fX7_47 rfl rfl ?_
              refine q_getR (pc := 68) dX7_boards_68 fX7_245 rfl rfl ?_
              refine q_iload_n (pc := 71) dX7_boards_71 rfl ?_
              refine q_iald (pc := 72) dX7_boards_72 rfl (by omega) ?_
              refine q_ri (pc := 73) dX7_boards_73 rfl ?_
              refine pC.q hC hF2 (scr_in (by decide)) ?_
              rw [if_pos (by omega), if_pos (by omega)]
              first
              | (rw [if_pos (by omega)]; omega)
              | (rw [if_neg (by omega), if_pos (by omega)])
              | (rw [if_neg (by omega), if_neg (by omega)]; exact (hsh2 (by omega) w (by omega) (by omega)).symm)
            · refine q_iload_n (pc := 60) dX7_boards_60 rfl ?_
              refine q_goto (pc := 61) (tgt := 73) dX7_boards_61 (by decide) ?_
              refine q_ri (pc := 73) dX7_boards_73 rfl ?_
              refine pC.q hC hF2 (scr_in (by decide)) ?_
              rw [if_pos (by omega), if_pos (by omega)]
              first
              | (rw [if_pos (by omega)]; omega)
              | (rw [if_neg (by omega), if_pos (by omega)])
              | (rw [if_neg (by omega), if_neg (by omega)]; exact (hsh2 (by omega) w (by omega) (by omega)).symm)
        · refine q_ldc (pc := 33) (n := -1000001) kX7_66 dX7_boards_33 ?_
          refine q_ri (pc := 35) dX7_boards_35 rfl ?_
          refine pC.q0 hC ?_
          repeat' (first | rw [if_neg (by omega)] | rw [if_pos (by omega)])
  · refine q_ldc (pc := 10) (n := -1000002) kX7_137 dX7_boards_10 ?_
    refine q_ri (pc := 12) dX7_boards_12 rfl ?_
    refine pC.q0 hC ?_
    repeat' (first | rw [if_neg (by omega)] | rw [if_pos (by omega)])
end T2
