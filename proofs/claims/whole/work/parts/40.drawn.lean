/-! ===== drawn ===== -/
def dX (s : Int) : Nat → Int
  | 0 => s
  | t + 1 => dX s t * 16807 % 2147483647
theorem dX_in {s : Int} (h : 1 ≤ s ∧ s ≤ 999999) : ∀ t, 0 ≤ dX s t ∧ dX s t < 2147483647
  | 0 => by show 0 ≤ s ∧ s < 2147483647; omega
  | t + 1 => by show 0 ≤ dX s t * 16807 % 2147483647 ∧ dX s t * 16807 % 2147483647 < 2147483647; omega
def dG (f : Int → Int) (s : Int) : Nat → (Int → Int) × Int
  | 0 => (f, 0)
  | t + 1 => (mHour (if mDone (dG f s t).1 (dX s (t + 1) % f 5) then (dG f s t).1 else mDo (dG f s t).1 (dX s (t + 1) % f 5)), (dG f s t).2 + bi (mLevel (mHour (if mDone (dG f s t).1 (dX s (t + 1) % f 5) then (dG f s t).1 else mDo (dG f s t).1 (dX s (t + 1) % f 5)))))
def s_drawn (A : qA) (n s w : Int) : Int × qA := (if A.1 0 = 1 then (if (0 ≤ n ∧ n ≤ 60) ∧ (1 ≤ s ∧ s ≤ 999999) ∧ (0 ≤ w ∧ w ≤ 1) then (if w = 1 then (dG A.1 s n.toNat).2 else mAwry (dG A.1 s n.toNat).1) else -1000001) else -1000002, A)
theorem qbit : ∀ a : Fin 128, ∀ i : Fin 7, (qand (qshr (a : Nat) (i : Nat)) 1 = 0 ∨ qand (qshr (a : Nat) (i : Nat)) 1 = 1) ∧ (qand (qshr (a : Nat) (i : Nat)) 1 = 1 → qor (a : Nat) (qshl 1 (i : Nat)) = (a : Nat)) := by decide +kernel
theorem qbit_i {a i : Int} (ha : 0 ≤ a ∧ a < 128) (hi : 0 ≤ i ∧ i < 7) : (qand (qshr a i) 1 = 0 ∨ qand (qshr a i) 1 = 1) ∧ (qand (qshr a i) 1 = 1 → qor a (qshl 1 i) = a) := by
  have h := qbit ⟨a.toNat, by omega⟩ ⟨i.toNat, by omega⟩
  simp only at h
  rw [show ((a.toNat : Nat) : Int) = a by omega, show ((i.toNat : Nat) : Int) = i by omega] at h
  exact h
/-- what stays of the row through such a night -/
theorem dG_row {f : Int → Int} (hR : Row f) (h1 : f 0 = 1) {s : Int} (hs : 1 ≤ s ∧ s ≤ 999999) : ∀ t : Nat, mOk (dG f s t).1 ∧ (∀ j, j < 4 ∨ j = 5 ∨ 12 < j → (dG f s t).1 j = f j) ∧ (dG f s t).1 4 = f 4 + t ∧ (0 ≤ (dG f s t).1 6 ∧ (dG f s t).1 6 < 2 ^ (f 5).toNat) ∧ (0 ≤ (dG f s t).2 ∧ (dG f s t).2 ≤ t)
  | 0 => ⟨hR.1, fun _ _ => rfl, by show f 4 = _; omega, hR.2.2.2.1, by show (0 : Int) ≤ 0 ∧ (0 : Int) ≤ 0; omega⟩
  | t + 1 => by
    obtain ⟨i1, i2, i3, i4, i5⟩ := dG_row hR h1 hs t
    have hl := hR.law h1
    have h5 := hR.de
    have hx := dX_in hs (t + 1)
    have hi : 0 ≤ dX s (t + 1) % f 5 ∧ dX s (t + 1) % f 5 < f 5 := ⟨Int.emod_nonneg _ (by omega), Int.emod_lt_of_pos _ (by omega)⟩
    have hd := hR.d hi.1 hi.2
    have e1 := i2 (13 + 3 * (dX s (t + 1) % f 5)) (by omega)
    have e2 := i2 (14 + 3 * (dX s (t + 1) % f 5)) (by omega)
    have e3 := i2 (15 + 3 * (dX s (t + 1) % f 5)) (by omega)
    have hb := bi_in (mLevel (mHour (if mDone (dG f s t).1 (dX s (t + 1) % f 5) then (dG f s t).1 else mDo (dG f s t).1 (dX s (t + 1) % f 5))))
    refine ⟨?_, fun j hj => ?_, ?_, ?_, ?_⟩
    · show mOk (mHour _)
      refine mHour_ok ?_
      split
      · exact i1
      · exact mDo_ok i1 (by rw [e2]; exact hd.2.1)
    · show mHour _ j = f j
      rw [mHour_o _ (by omega)]
      split
      · exact i2 j hj
      · unfold mDo
        rw [u1_ne (by omega), mAct_o _ _ _ _ (by rw [e2]; exact hd.2.1.1) (by rw [e2]; exact hd.2.1.2) (by omega)]
        exact i2 j hj
    · show mHour _ 4 = f 4 + ((t + 1 : Nat) : Int)
      rw [mHour_4]
      split
      · rw [i3]; omega
      · unfold mDo
        rw [u1_ne (by omega), mAct_o _ _ _ _ (by rw [e2]; exact hd.2.1.1) (by rw [e2]; exact hd.2.1.2) (by omega), i3]; omega
    · show 0 ≤ mHour _ 6 ∧ mHour _ 6 < _
      rw [mHour_o _ (by omega)]
      split
      · exact i4
      · rw [mDo_6]; exact done_lt i4 h5 hi
    · show 0 ≤ (dG f s t).2 + _ ∧ (dG f s t).2 + _ ≤ ((t + 1 : Nat) : Int)
      omega
theorem dG_sink {g f : Int → Int} {t : Nat} (hO : mOk g) (h3 : g 3 = f 3) (h4 : g 4 = f 4 + t) (hl : 1 ≤ f 3 ∧ f 3 ≤ 9) (hf4 : 0 ≤ f 4) : ∀ j, 7 ≤ j → j ≤ 12 → mHour g j = mSink g (mRains f (t + 1) - mRains f t) j := by
  intro j a b
  have q := sink_hours (f := g) hO (by rw [h3]; exact hl) (by rw [h4]; omega) 1 j a b
  have e : mRains g ((1 : Nat) : Int) = mRains f (t + 1) - mRains f t := by
    rw [mRains_s hl hf4 t (by omega), show ((1 : Nat) : Int) = 0 + 1 from rfl, mRains_s (f := g) (by rw [h3]; exact hl) (by rw [h4]; omega) 0 (by omega), mRains_0, h3, h4]
    rw [show f 4 + (t : Int) + 0 = f 4 + t by omega]
    omega
  rw [← e]
  exact q
section T2
variable {G : qGl} {d : Nat} {σ : qM} {A : qA} {f g : Int → Int}
theorem x_draw_l {n s : Int} (hs0 : SiR σ 15 f) (hR : Row f) (h1 : f 0 = 1) (hn : 0 ≤ n ∧ n ≤ 60) (hse : 1 ≤ s ∧ s ≤ 999999) : ∀ (m t : Nat) (σ' : qM), (m : Int) + t = n → Fr σ σ' [48, 49] → StR σ' 47 (dG f s t).1 → qE G mX2_drawNight (d + 5) 37 [(8, vi t), (6, vl (dX s t)), (5, vi (dG f s t).2), (4, vi ((dG f s t).1 6)), (0, vr 46), (1, vr 15), (2, vi n), (3, vi s)] [] σ' (ri fun r σ1 => (dG f s n.toNat).2 = r ∧ Fr σ σ1 [48, 49] ∧ StR σ1 47 (dG f s n.toNat).1) := by
  intro m
  induction m with
  | zero =>
    intro t σ' hm hF hS
    refine q_iload (pc := 37) dX2_drawNight_37 rfl ?_
    refine q_iload_n (pc := 39) dX2_drawNight_39 rfl ?_
    refine q_icmpge (pc := 40) (tgt := 137) dX2_drawNight_40 (by decide) (by omega) (by omega) (fun h40 => ?_) (fun h => absurd h (by omega))
    refine q_iload (pc := 137) dX2_drawNight_137 rfl ?_
    refine q_ri (pc := 139) dX2_drawNight_139 rfl ?_
    rw [show n.toNat = t by omega]
    exact ⟨rfl, hF, hS⟩
  | succ m ih =>
    intro t σ' hm hF hS
    have hs := hs0.fr hF (fun j a b => by simp; omega)
    have e5 := hs.1.2.2.1
    have h5 := hR.de
    have hl := hR.law h1
    have h4 := hR.2.1
    have hx0 := dX_in hse t
    have hx : 0 ≤ dX s t * 16807 % 2147483647 ∧ dX s t * 16807 % 2147483647 < 2147483647 := dX_in hse (t + 1)
    obtain ⟨i1, i2, i3, i4, i5⟩ := dG_row hR h1 hse t
    have h7 := pow7 h5
    have hi : 0 ≤ dX s (t + 1) % f 5 ∧ dX s (t + 1) % f 5 < f 5 := ⟨Int.emod_nonneg _ (by omega), Int.emod_lt_of_pos _ (by omega)⟩
    have hd := hR.d hi.1 hi.2
    have e1' := i2 (13 + 3 * (dX s (t + 1) % f 5)) (by omega)
    have e2' := i2 (14 + 3 * (dX s (t + 1) % f 5)) (by omega)
    have e3' := i2 (15 + 3 * (dX s (t + 1) % f 5)) (by omega)
    have hbit := qbit_i (a := (dG f s t).1 6) (i := dX s (t + 1) % f 5) (by omega) (by omega)
    have hq := qand_in (qshr ((dG f s t).1 6) (dX s (t + 1) % f 5)) 1
    have hr1 := mRains_in (f := f) (n := t) hl.2.2.1.1 h4.1 (by omega)
    have hr2 := mRains_in (f := f) (n := t + 1) hl.2.2.1.1 h4.1 (by omega)
    have hr3 := mRains_s hl.2.2.1 h4.1 t (by omega)
    have hr4 : mRains f t ≤ mRains f (t + 1) := by rw [hr3]; split <;> omega
    by_cases hdn : mDone (dG f s t).1 (dX s (t + 1) % f 5)
    · have hdn' : qand (qshr ((dG f s t).1 6) (dX s (t + 1) % f 5)) 1 = 1 := hdn
      have eG : dG f s (t + 1) = (mHour (dG f s t).1, (dG f s t).2 + bi (mLevel (mHour (dG f s t).1))) := by
        show (mHour (if _ then _ else _), _ + bi (mLevel (mHour (if _ then _ else _)))) = _
        simp only [if_pos hdn]
      have hOx := i1
      have hx3 := i2 3 (by omega)
      have hx4 := i3
      have hFx : Fr σ' σ' [48, 49] := Fr.rf
      have h6x : (dG f s t).1 6 = qor ((dG f s t).1 6) (qshl 1 (dX s (t + 1) % f 5)) := (hbit.2 hdn').symm
      generalize hgx : (dG f s t).1 = gx at *
      refine q_iload (pc := 37) dX2_drawNight_37 rfl ?_
      refine q_iload_n (pc := 39) dX2_drawNight_39 rfl ?_
      refine q_icmpge (pc := 40) (tgt := 137) dX2_drawNight_40 (by decide) (by omega) (by omega) (fun h => absurd h (by omega)) (fun h40 => ?_)
      refine q_lload (pc := 43) dX2_drawNight_43 rfl ?_
      refine q_ldc2 (pc := 45) (n := 16807) kX2_142 dX2_drawNight_45 ?_
      refine q_lmul (pc := 48) dX2_drawNight_48 ?_
      refine q_ldc2 (pc := 49) (n := 2147483647) kX2_144 dX2_drawNight_49 ?_
      refine q_lrem (pc := 52) dX2_drawNight_52 (by omega) ?_
      refine q_lstore (pc := 53) dX2_drawNight_53 (Nat.le_of_ble_eq_true rfl) ?_
      refine q_lload (pc := 55) dX2_drawNight_55 rfl ?_
      refine q_aload_n (pc := 57) dX2_drawNight_57 rfl ?_
      refine q_gI (pc := 58) 5 dX2_drawNight_58 fX2_70 rfl rfl rfl ?_
      refine q_i2l (pc := 61) dX2_drawNight_61 (by omega) ?_
      refine q_lrem (pc := 62) dX2_drawNight_62 (by omega) ?_
      rw [e5, show dX s t * 16807 % 2147483647 = dX s (t + 1) from rfl]
      refine q_l2i (pc := 63) dX2_drawNight_63 (by omega) ?_
      refine q_istore (pc := 64) dX2_drawNight_64 (Nat.le_of_ble_eq_true rfl) ?_
      refine q_iload (pc := 66) dX2_drawNight_66 rfl ?_
      refine q_iload (pc := 68) dX2_drawNight_68 rfl ?_
      refine q_ishr (pc := 70) dX2_drawNight_70 ?_
      refine q_iconst (pc := 71) dX2_drawNight_71 ?_
      refine q_iand (pc := 72) dX2_drawNight_72 ?_
      refine q_ifne (pc := 73) (tgt := 86) dX2_drawNight_73 (by decide) (by omega) (fun h73 => ?_) (fun h => absurd h (by omega))
      refine q_iload (pc := 86) dX2_drawNight_86 rfl ?_
      refine q_iconst (pc := 88) dX2_drawNight_88 ?_
      refine q_iload (pc := 89) dX2_drawNight_89 rfl ?_
      refine q_ishl (pc := 91) dX2_drawNight_91 ?_
      refine q_ior (pc := 92) dX2_drawNight_92 ?_
      refine q_istore (pc := 93) dX2_drawNight_93 (Nat.le_of_ble_eq_true rfl) ?_
      refine q_aload_n (pc := 95) dX2_drawNight_95 rfl ?_
      refine q_getR (pc := 96) dX2_drawNight_96 fX2_12 rfl rfl ?_
      refine q_aload_n (pc := 99) dX2_drawNight_99 rfl ?_
      refine q_iload (pc := 100) dX2_drawNight_100 rfl ?_
      refine q_iconst (pc := 102) dX2_drawNight_102 ?_
      refine q_iadd (pc := 103) dX2_drawNight_103 ?_
      refine q_V1i (pc := 104) dX2_drawNight_104 vX2_32 rfl rfl (Nat.le_of_ble_eq_true rfl) (Nat.le_of_ble_eq_true rfl) (t_X4_rainsWithin si15 hs hR h1 (by omega)) (fun r1 σ1 hc1 => ?_)
      obtain ⟨rfl, rfl⟩ := hc1
      refine q_aload_n (pc := 107) dX2_drawNight_107 rfl ?_
      refine q_iload (pc := 108) dX2_drawNight_108 rfl ?_
      refine q_V1i (pc := 110) dX2_drawNight_110 vX2_32 rfl rfl (Nat.le_of_ble_eq_true rfl) (Nat.le_of_ble_eq_true rfl) (t_X4_rainsWithin si15 hs hR h1 (by omega)) (fun r2 σ2 hc2 => ?_)
      obtain ⟨rfl, rfl⟩ := hc2
      refine q_isub (pc := 113) dX2_drawNight_113 ?_
      refine q_V1v (pc := 114) dX2_drawNight_114 vX2_46 rfl rfl (Nat.le_of_ble_eq_true rfl) (Nat.le_of_ble_eq_true rfl) (t_X5_sink st47 hS hOx (by omega)) (fun σ3 hc3 => ?_)
      obtain ⟨hF3, hS3, hO3⟩ := hc3
      have hSy := hS3.congr (fun j a b => dG_sink (f := f) hOx hx3 hx4 hl.2.2.1 h4.1 j a b)
      have hOy := mHour_ok hOx
      have hFy := hFx.tt (hF3.wk (S' := [48, 49]) (by simp))
      refine q_aload_n (pc := 117) dX2_drawNight_117 rfl ?_
      refine q_aload_n (pc := 118) dX2_drawNight_118 rfl ?_
      refine q_getR (pc := 119) dX2_drawNight_119 fX2_12 rfl rfl ?_
      refine q_V1i (pc := 122) dX2_drawNight_122 vX2_57 rfl rfl (Nat.le_of_ble_eq_true rfl) (Nat.le_of_ble_eq_true rfl) (t_X4_isLevel si15 st47 (hs.fr hFy (fun j a b => by simp; omega)) hR h1 hSy hOy ⟨by rw [mHour_o _ (by omega)]; exact i2 1 (by omega), by rw [mHour_o _ (by omega)]; exact i2 2 (by omega)⟩) (fun r4 σ4 hc4 => ?_)
      obtain ⟨rfl, rfl⟩ := hc4
      refine q_ifeqb (pc := 125) (tgt := 131) dX2_drawNight_125 (by decide) (fun h125 => ?_) (fun h125 => ?_)
      · refine q_iinc (pc := 131) dX2_drawNight_131 rfl (Nat.le_of_ble_eq_true rfl) ?_
        refine q_goto (pc := 134) (tgt := 37) dX2_drawNight_134 (by decide) ?_
        have q := ih (t + 1) σ3 (by omega) (hF.tt hFy) (by rw [eG]; exact hSy)
        first
        | (rw [eG, bi_t (by assumption)] at q
           simp only [mHour_o gx (show (6 : Int) < 4 ∨ (6 : Int) = 5 ∨ (6 : Int) = 6 ∨ (9 : Int) < 6 by omega)] at q
           rw [h6x] at q
           exact q_locs _ [0, 3, 4, 1, 5, 6, 7, 8] rfl q)
        | (rw [eG, bi_f (by assumption)] at q
           simp only [mHour_o gx (show (6 : Int) < 4 ∨ (6 : Int) = 5 ∨ (6 : Int) = 6 ∨ (9 : Int) < 6 by omega), Int.add_zero] at q
           rw [h6x] at q
           exact q_locs _ [0, 3, 4, 1, 5, 6, 7, 8] rfl q)
      · refine q_iinc (pc := 128) dX2_drawNight_128 rfl (Nat.le_of_ble_eq_true rfl) ?_
        refine q_iinc (pc := 131) dX2_drawNight_131 rfl (Nat.le_of_ble_eq_true rfl) ?_
        refine q_goto (pc := 134) (tgt := 37) dX2_drawNight_134 (by decide) ?_
        have q := ih (t + 1) σ3 (by omega) (hF.tt hFy) (by rw [eG]; exact hSy)
        first
        | (rw [eG, bi_t (by assumption)] at q
           simp only [mHour_o gx (show (6 : Int) < 4 ∨ (6 : Int) = 5 ∨ (6 : Int) = 6 ∨ (9 : Int) < 6 by omega)] at q
           rw [h6x] at q
           exact q_locs _ [0, 4, 1, 2, 5, 6, 7, 8] rfl q)
        | (rw [eG, bi_f (by assumption)] at q
           simp only [mHour_o gx (show (6 : Int) < 4 ∨ (6 : Int) = 5 ∨ (6 : Int) = 6 ∨ (9 : Int) < 6 by omega), Int.add_zero] at q
           rw [h6x] at q
           exact q_locs _ [0, 4, 1, 2, 5, 6, 7, 8] rfl q)
    · have hdn' : qand (qshr ((dG f s t).1 6) (dX s (t + 1) % f 5)) 1 ≠ 1 := hdn
      have eG : dG f s (t + 1) = (mHour (mDo (dG f s t).1 (dX s (t + 1) % f 5)), (dG f s t).2 + bi (mLevel (mHour (mDo (dG f s t).1 (dX s (t + 1) % f 5))))) := by
        show (mHour (if _ then _ else _), _ + bi (mLevel (mHour (if _ then _ else _)))) = _
        simp only [if_neg hdn]
      have hOx : mOk (mDo (dG f s t).1 (dX s (t + 1) % f 5)) := mDo_ok i1 (by rw [e2']; exact hd.2.1)
      have hox : ∀ j, j < 6 ∨ 12 < j → mDo (dG f s t).1 (dX s (t + 1) % f 5) j = (dG f s t).1 j := fun j hj => by
        unfold mDo
        rw [u1_ne (by omega), mAct_o _ _ _ _ (by rw [e2']; exact hd.2.1.1) (by rw [e2']; exact hd.2.1.2) (by omega)]
      have hx3 := (hox 3 (by omega)).trans (i2 3 (by omega))
      have hx4 := (hox 4 (by omega)).trans i3
      have hx1 := (hox 1 (by omega)).trans (i2 1 (by omega))
      have hx2 := (hox 2 (by omega)).trans (i2 2 (by omega))
      have h6x : mDo (dG f s t).1 (dX s (t + 1) % f 5) 6 = qor ((dG f s t).1 6) (qshl 1 (dX s (t + 1) % f 5)) := mDo_6 _ _
      have hSq : ∀ σ1, StR σ1 47 (mAct (dG f s t).1 (f (13 + 3 * (dX s (t + 1) % f 5))) (f (14 + 3 * (dX s (t + 1) % f 5))) (f (15 + 3 * (dX s (t + 1) % f 5)))) → StR σ1 47 (mDo (dG f s t).1 (dX s (t + 1) % f 5)) := fun σ1 h => h.congr (fun j a b => by unfold mDo; rw [u1_ne (by omega), e1', e2', e3'])
      generalize hgx : mDo (dG f s t).1 (dX s (t + 1) % f 5) = gx at *
      refine q_iload (pc := 37) dX2_drawNight_37 rfl ?_
      refine q_iload_n (pc := 39) dX2_drawNight_39 rfl ?_
      refine q_icmpge (pc := 40) (tgt := 137) dX2_drawNight_40 (by decide) (by omega) (by omega) (fun h => absurd h (by omega)) (fun h40 => ?_)
      refine q_lload (pc := 43) dX2_drawNight_43 rfl ?_
      refine q_ldc2 (pc := 45) (n := 16807) kX2_142 dX2_drawNight_45 ?_
      refine q_lmul (pc := 48) dX2_drawNight_48 ?_
      refine q_ldc2 (pc := 49) (n := 2147483647) kX2_144 dX2_drawNight_49 ?_
      refine q_lrem (pc := 52) dX2_drawNight_52 (by omega) ?_
      refine q_lstore (pc := 53) dX2_drawNight_53 (Nat.le_of_ble_eq_true rfl) ?_
      refine q_lload (pc := 55) dX2_drawNight_55 rfl ?_
      refine q_aload_n (pc := 57) dX2_drawNight_57 rfl ?_
      refine q_gI (pc := 58) 5 dX2_drawNight_58 fX2_70 rfl rfl rfl ?_
      refine q_i2l (pc := 61) dX2_drawNight_61 (by omega) ?_
      refine q_lrem (pc := 62) dX2_drawNight_62 (by omega) ?_
      rw [e5, show dX s t * 16807 % 2147483647 = dX s (t + 1) from rfl]
      refine q_l2i (pc := 63) dX2_drawNight_63 (by omega) ?_
      refine q_istore (pc := 64) dX2_drawNight_64 (Nat.le_of_ble_eq_true rfl) ?_
      refine q_iload (pc := 66) dX2_drawNight_66 rfl ?_
      refine q_iload (pc := 68) dX2_drawNight_68 rfl ?_
      refine q_ishr (pc := 70) dX2_drawNight_70 ?_
      refine q_iconst (pc := 71) dX2_drawNight_71 ?_
      refine q_iand (pc := 72) dX2_drawNight_72 ?_
      refine q_ifne (pc := 73) (tgt := 86) dX2_drawNight_73 (by decide) (by omega) (fun h => absurd h (by omega)) (fun h73 => ?_)
      refine q_aload_n (pc := 76) dX2_drawNight_76 rfl ?_
      refine q_iload (pc := 77) dX2_drawNight_77 rfl ?_
      refine q_aload_n (pc := 79) dX2_drawNight_79 rfl ?_
      refine q_getR (pc := 80) dX2_drawNight_80 fX2_12 rfl rfl ?_
      refine q_V2v (pc := 83) dX2_drawNight_83 vX2_65 rfl rfl (Nat.le_of_ble_eq_true rfl) (Nat.le_of_ble_eq_true rfl) (t_X4_enact si15 st47 hs hR hi hS i1) (fun σ1 hc1 => ?_)
      obtain ⟨hF1, hS1, hO1⟩ := hc1
      have hSx := hSq _ hS1
      have hFx := hF1.wk (S' := [48, 49]) (by simp)
      have hsx := hs.fr hFx (fun j a b => by simp; omega)
      refine q_iload (pc := 86) dX2_drawNight_86 rfl ?_
      refine q_iconst (pc := 88) dX2_drawNight_88 ?_
      refine q_iload (pc := 89) dX2_drawNight_89 rfl ?_
      refine q_ishl (pc := 91) dX2_drawNight_91 ?_
      refine q_ior (pc := 92) dX2_drawNight_92 ?_
      refine q_istore (pc := 93) dX2_drawNight_93 (Nat.le_of_ble_eq_true rfl) ?_
      refine q_aload_n (pc := 95) dX2_drawNight_95 rfl ?_
      refine q_getR (pc := 96) dX2_drawNight_96 fX2_12 rfl rfl ?_
      refine q_aload_n (pc := 99) dX2_drawNight_99 rfl ?_
      refine q_iload (pc := 100) dX2_drawNight_100 rfl ?_
      refine q_iconst (pc := 102) dX2_drawNight_102 ?_
      refine q_iadd (pc := 103) dX2_drawNight_103 ?_
      refine q_V1i (pc := 104) dX2_drawNight_104 vX2_32 rfl rfl (Nat.le_of_ble_eq_true rfl) (Nat.le_of_ble_eq_true rfl) (t_X4_rainsWithin si15 hsx hR h1 (by omega)) (fun r2 σ2 hc2 => ?_)
      obtain ⟨rfl, rfl⟩ := hc2
      refine q_aload_n (pc := 107) dX2_drawNight_107 rfl ?_
      refine q_iload (pc := 108) dX2_drawNight_108 rfl ?_
      refine q_V1i (pc := 110) dX2_drawNight_110 vX2_32 rfl rfl (Nat.le_of_ble_eq_true rfl) (Nat.le_of_ble_eq_true rfl) (t_X4_rainsWithin si15 hsx hR h1 (by omega)) (fun r3 σ3 hc3 => ?_)
      obtain ⟨rfl, rfl⟩ := hc3
      refine q_isub (pc := 113) dX2_drawNight_113 ?_
      refine q_V1v (pc := 114) dX2_drawNight_114 vX2_46 rfl rfl (Nat.le_of_ble_eq_true rfl) (Nat.le_of_ble_eq_true rfl) (t_X5_sink st47 hSx hOx (by omega)) (fun σ4 hc4 => ?_)
      obtain ⟨hF4, hS4, hO4⟩ := hc4
      have hSy := hS4.congr (fun j a b => dG_sink (f := f) hOx hx3 hx4 hl.2.2.1 h4.1 j a b)
      have hOy := mHour_ok hOx
      have hFy := hFx.tt (hF4.wk (S' := [48, 49]) (by simp))
      refine q_aload_n (pc := 117) dX2_drawNight_117 rfl ?_
      refine q_aload_n (pc := 118) dX2_drawNight_118 rfl ?_
      refine q_getR (pc := 119) dX2_drawNight_119 fX2_12 rfl rfl ?_
      refine q_V1i (pc := 122) dX2_drawNight_122 vX2_57 rfl rfl (Nat.le_of_ble_eq_true rfl) (Nat.le_of_ble_eq_true rfl) (t_X4_isLevel si15 st47 (hs.fr hFy (fun j a b => by simp; omega)) hR h1 hSy hOy ⟨by rw [mHour_o _ (by omega)]; exact hx1, by rw [mHour_o _ (by omega)]; exact hx2⟩) (fun r5 σ5 hc5 => ?_)
      obtain ⟨rfl, rfl⟩ := hc5
      refine q_ifeqb (pc := 125) (tgt := 131) dX2_drawNight_125 (by decide) (fun h125 => ?_) (fun h125 => ?_)
      · refine q_iinc (pc := 131) dX2_drawNight_131 rfl (Nat.le_of_ble_eq_true rfl) ?_
        refine q_goto (pc := 134) (tgt := 37) dX2_drawNight_134 (by decide) ?_
        have q := ih (t + 1) σ4 (by omega) (hF.tt hFy) (by rw [eG]; exact hSy)
        first
        | (rw [eG, bi_t (by assumption)] at q
           simp only [mHour_o gx (show (6 : Int) < 4 ∨ (6 : Int) = 5 ∨ (6 : Int) = 6 ∨ (9 : Int) < 6 by omega)] at q
           rw [h6x] at q
           exact q_locs _ [0, 3, 4, 1, 5, 6, 7, 8] rfl q)
        | (rw [eG, bi_f (by assumption)] at q
           simp only [mHour_o gx (show (6 : Int) < 4 ∨ (6 : Int) = 5 ∨ (6 : Int) = 6 ∨ (9 : Int) < 6 by omega), Int.add_zero] at q
           rw [h6x] at q
           exact q_locs _ [0, 3, 4, 1, 5, 6, 7, 8] rfl q)
      · refine q_iinc (pc := 128) dX2_drawNight_128 rfl (Nat.le_of_ble_eq_true rfl) ?_
        refine q_iinc (pc := 131) dX2_drawNight_131 rfl (Nat.le_of_ble_eq_true rfl) ?_
        refine q_goto (pc := 134) (tgt := 37) dX2_drawNight_134 (by decide) ?_
        have q := ih (t + 1) σ4 (by omega) (hF.tt hFy) (by rw [eG]; exact hSy)
        first
        | (rw [eG, bi_t (by assumption)] at q
           simp only [mHour_o gx (show (6 : Int) < 4 ∨ (6 : Int) = 5 ∨ (6 : Int) = 6 ∨ (9 : Int) < 6 by omega)] at q
           rw [h6x] at q
           exact q_locs _ [0, 4, 1, 2, 5, 6, 7, 8] rfl q)
        | (rw [eG, bi_f (by assumption)] at q
           simp only [mHour_o gx (show (6 : Int) < 4 ∨ (6 : Int) = 5 ∨ (6 : Int) = 6 ∨ (9 : Int) < 6 by omega), Int.add_zero] at q
           rw [h6x] at q
           exact q_locs _ [0, 4, 1, 2, 5, 6, 7, 8] rfl q)
theorem x_draw {n s : Int} (hs0 : SiR σ 15 f) (hR : Row f) (h1 : f 0 = 1) (hn : 0 ≤ n ∧ n ≤ 60) (hse : 1 ≤ s ∧ s ≤ 999999) : qE G mX2_drawNight (d + 5) 0 [(0, vr 46), (1, vr 15), (2, vi n), (3, vi s)] [] σ (ri fun r σ1 => (dG f s n.toNat).2 = r ∧ Fr σ σ1 [48, 49] ∧ StR σ1 47 (dG f s n.toNat).1) := by
  have e5 := hs0.1.2.2.1
  have h5 := hR.de
  have hl := hR.law h1
  refine q_aload_n (pc := 0) dX2_drawNight_0 rfl ?_
  refine q_gI (pc := 1) 5 dX2_drawNight_1 fX2_70 rfl rfl rfl ?_
  refine q_iconst (pc := 4) dX2_drawNight_4 ?_
  refine q_icmpge (pc := 5) (tgt := 10) dX2_drawNight_5 (by decide) (by omega) (by omega) (fun h5 => ?_) (fun h => absurd h (by omega))
  refine q_aload_n (pc := 10) dX2_drawNight_10 rfl ?_
  refine q_getR (pc := 11) dX2_drawNight_11 fX2_12 rfl rfl ?_
  refine q_aload_n (pc := 14) dX2_drawNight_14 rfl ?_
  refine q_getR (pc := 15) dX2_drawNight_15 fX2_50 rfl rfl ?_
  refine q_V1v (pc := 18) dX2_drawNight_18 vX2_42 rfl rfl (Nat.le_of_ble_eq_true rfl) (Nat.le_of_ble_eq_true rfl) (t_X5_copyFrom st47 st19 hs0.2.2.1) (fun σ1 hc1 => ?_)
  obtain ⟨hF1, hS1⟩ := hc1
  refine q_aload_n (pc := 21) dX2_drawNight_21 rfl ?_
  refine q_gI (pc := 22) 6 dX2_drawNight_22 fX2_85 rfl rfl rfl ?_
  refine q_istore (pc := 25) dX2_drawNight_25 (Nat.le_of_ble_eq_true rfl) ?_
  refine q_iconst (pc := 27) dX2_drawNight_27 ?_
  refine q_istore (pc := 28) dX2_drawNight_28 (Nat.le_of_ble_eq_true rfl) ?_
  refine q_iload_n (pc := 30) dX2_drawNight_30 rfl ?_
  refine q_i2l (pc := 31) dX2_drawNight_31 (by omega) ?_
  refine q_lstore (pc := 32) dX2_drawNight_32 (Nat.le_of_ble_eq_true rfl) ?_
  refine q_iconst (pc := 34) dX2_drawNight_34 ?_
  refine q_istore (pc := 35) dX2_drawNight_35 (Nat.le_of_ble_eq_true rfl) ?_
  have e6 : σ1 15 6 = f 6 := by rw [hF1 15 (by simp)]; exact hs0.1.2.2.2
  rw [e6]
  refine q_mono (fun v σ' h => ?_) (x_draw_l (hs0.fr hF1 (fun j a b => by simp; omega)) hR h1 hn hse n.toNat 0 _ (by omega) Fr.rf hS1)
  obtain ⟨x, z1, z2, z3, z4⟩ := h
  exact ⟨x, z1, z2, (hF1.wk (by simp)).tt z3, z4⟩
theorem x_drawn {n s w : Int} (hC : CR σ A) (hV : AV A) (hn : -2147483648 ≤ n ∧ n ≤ 2147483647) (hs : -2147483648 ≤ s ∧ s ≤ 2147483647) (hw : -2147483648 ≤ w ∧ w ≤ 2147483647) : qE G mX7_drawn (d + 6) 0 [(0, vr 0), (1, vi n), (2, vi s), (3, vi w)] [] σ (ri (pC σ (s_drawn A n s w))) := by
  have hR := hV.1
  have h01 := hR.f0
  have e0 := hC.1.1.1
  refine q_aload_n (pc := 0) dX7_drawn_0 rfl ?_
  refine q_getR (pc := 1) dX7_drawn_1 fX7_26 rfl rfl ?_
  refine q_gI (pc := 4) 0 dX7_drawn_4 fX7_141 rfl rfl rfl ?_
  refine q_ifne (pc := 7) (tgt := 13) dX7_drawn_7 (by decide) (by omega) (fun h7 => ?_) (fun h7 => ?_)
  · refine q_iload_n (pc := 13) dX7_drawn_13 rfl ?_
    refine q_iconst (pc := 14) dX7_drawn_14 ?_
    refine q_bipush (pc := 15) dX7_drawn_15 (by decide +kernel) ?_
    refine q_S3i (pc := 17) dX7_drawn_17 vX7_62 (Nat.le_of_ble_eq_true rfl) (Nat.le_of_ble_eq_true rfl) (t_X7_isWithin (by omega) (by omega) (by omega)) (fun r1 σ1 hc1 => ?_)
    obtain ⟨rfl, rfl⟩ := hc1
    refine q_ifeqb (pc := 20) (tgt := 43) dX7_drawn_20 (by decide) (fun h20 => ?_) (fun h20 => ?_)
    · refine q_ldc (pc := 43) (n := -1000001) kX7_66 dX7_drawn_43 ?_
      refine q_ri (pc := 45) dX7_drawn_45 rfl ?_
      refine pC.q0 hC ?_
      repeat' (first | rw [if_neg (by omega)] | rw [if_pos (by omega)])
    · refine q_iload_n (pc := 23) dX7_drawn_23 rfl ?_
      refine q_iconst (pc := 24) dX7_drawn_24 ?_
      refine q_ldcw (pc := 25) (n := 999999) kX7_274 dX7_drawn_25 ?_
      refine q_S3i (pc := 28) dX7_drawn_28 vX7_62 (Nat.le_of_ble_eq_true rfl) (Nat.le_of_ble_eq_true rfl) (t_X7_isWithin (by omega) (by omega) (by omega)) (fun r2 σ2 hc2 => ?_)
      obtain ⟨rfl, rfl⟩ := hc2
      refine q_ifeqb (pc := 31) (tgt := 43) dX7_drawn_31 (by decide) (fun h31 => ?_) (fun h31 => ?_)
      · refine q_ldc (pc := 43) (n := -1000001) kX7_66 dX7_drawn_43 ?_
        refine q_ri (pc := 45) dX7_drawn_45 rfl ?_
        refine pC.q0 hC ?_
        repeat' (first | rw [if_neg (by omega)] | rw [if_pos (by omega)])
      · refine q_iload_n (pc := 34) dX7_drawn_34 rfl ?_
        refine q_iconst (pc := 35) dX7_drawn_35 ?_
        refine q_iconst (pc := 36) dX7_drawn_36 ?_
        refine q_S3i (pc := 37) dX7_drawn_37 vX7_62 (Nat.le_of_ble_eq_true rfl) (Nat.le_of_ble_eq_true rfl) (t_X7_isWithin (by omega) (by omega) (by omega)) (fun r3 σ3 hc3 => ?_)
        obtain ⟨rfl, rfl⟩ := hc3
        refine q_ifneb (pc := 40) (tgt := 46) dX7_drawn_40 (by decide) (fun h40 => ?_) (fun h40 => ?_)
        · refine q_aload_n (pc := 46) dX7_drawn_46 rfl ?_
          refine q_getR (pc := 47) dX7_drawn_47 fX7_47 rfl rfl ?_
          refine q_aload_n (pc := 50) dX7_drawn_50 rfl ?_
          refine q_getR (pc := 51) dX7_drawn_51 fX7_26 rfl rfl ?_
          refine q_iload_n (pc := 54) dX7_drawn_54 rfl ?_
          refine q_iload_n (pc := 55) dX7_drawn_55 rfl ?_
          refine q_V3i (pc := 56) dX7_drawn_56 vX7_275 rfl rfl (Nat.le_of_ble_eq_true rfl) (Nat.le_of_ble_eq_true rfl) (x_draw hC.1 hR (by omega) (by omega) (by omega)) (fun r4 σ4 hc4 => ?_)
          obtain ⟨rfl, hF4, hS4⟩ := hc4
          refine q_istore (pc := 59) dX7_drawn_59 (Nat.le_of_ble_eq_true rfl) ?_
          refine q_iload_n (pc := 61) dX7_drawn_61 rfl ?_
          refine q_iconst (pc := 62) dX7_drawn_62 ?_
          refine q_icmpne (pc := 63) (tgt := 71) dX7_drawn_63 (by decide) (by omega) (by omega) (fun h63 => ?_) (fun h63 => ?_)
          · refine q_aload_n (pc := 71) dX7_drawn_71 rfl ?_
            refine q_getR (pc := 72) dX7_drawn_72 fX7_47 rfl rfl ?_
            refine q_getR (pc := 75) dX7_drawn_75 fX7_279 rfl rfl ?_
            refine q_V0i (pc := 78) dX7_drawn_78 vX7_158 rfl rfl (Nat.le_of_ble_eq_true rfl) (Nat.le_of_ble_eq_true rfl) (t_X5_awry st47 hS4 (dG_row hR (by omega) (by omega) _).1) (fun r5 σ5 hc5 => ?_)
            obtain ⟨rfl, rfl⟩ := hc5
            refine q_ri (pc := 81) dX7_drawn_81 rfl ?_
            refine pC.q hC hF4 (scr_in (by decide)) ?_
            rw [if_pos (by omega), if_pos (by omega)]
            first | exact if_pos (by omega) | exact if_neg (by omega)
          · refine q_iload (pc := 66) dX7_drawn_66 rfl ?_
            refine q_goto (pc := 68) (tgt := 81) dX7_drawn_68 (by decide) ?_
            refine q_ri (pc := 81) dX7_drawn_81 rfl ?_
            refine pC.q hC hF4 (scr_in (by decide)) ?_
            rw [if_pos (by omega), if_pos (by omega)]
            first | exact if_pos (by omega) | exact if_neg (by omega)
        · refine q_ldc (pc := 43) (n := -1000001) kX7_66 dX7_drawn_43 ?_
          refine q_ri (pc := 45) dX7_drawn_45 rfl ?_
          refine pC.q0 hC ?_
          repeat' (first | rw [if_neg (by omega)] | rw [if_pos (by omega)])
  · refine q_ldc (pc := 10) (n := -1000002) kX7_137 dX7_drawn_10 ?_
    refine q_ri (pc := 12) dX7_drawn_12 rfl ?_
    refine pC.q0 hC ?_
    repeat' (first | rw [if_neg (by omega)] | rw [if_pos (by omega)])
end T2
section T8
variable {G : qGl} {d : Nat} {σ : qM} {A : qA} {f g : Int → Int}
theorem m_draw_l {n s w : Int} (hR : Row f) (h1 : f 0 = 1) (hn : 0 ≤ n ∧ n ≤ 60) (hse : 1 ≤ s ∧ s ≤ 999999) (hw : 0 ≤ w ∧ w ≤ 1) : ∀ (m t : Nat) (σ' : qM), (m : Int) + t = n → Fr σ σ' [88] → RwR σ' 88 (dG f s t).1 → qE G mX8_drawn (d + 4) 66 [(7, vi t), (6, vi (dG f s t).2), (4, vl (dX s t)), (0, vr 82), (1, vi n), (2, vi s), (3, vi w)] [] σ' (ri fun r σ1 => (if w = 1 then (dG f s n.toNat).2 else mAwry (dG f s n.toNat).1) = r ∧ Fr σ σ1 [88]) := by
  intro m
  induction m with
  | zero =>
    intro t σ' hm hF hT
    obtain ⟨i1, i2, i3, i4, i5⟩ := dG_row hR h1 hse t
    refine q_iload (pc := 66) dX8_drawn_66 rfl ?_
    refine q_iload_n (pc := 68) dX8_drawn_68 rfl ?_
    refine q_icmpge (pc := 69) (tgt := 154) dX8_drawn_69 (by decide) (by omega) (by omega) (fun h69 => ?_) (fun h => absurd h (by omega))
    refine q_iload_n (pc := 154) dX8_drawn_154 rfl ?_
    refine q_ifne (pc := 155) (tgt := 168) dX8_drawn_155 (by decide) (by omega) (fun h155 => ?_) (fun h155 => ?_)
    · refine q_iload (pc := 168) dX8_drawn_168 rfl ?_
      refine q_ri (pc := 170) dX8_drawn_170 rfl ?_
      rw [show n.toNat = t by omega]
      exact ⟨by first | exact if_pos (by omega) | exact if_neg (by omega), hF⟩
    · refine q_aload_n (pc := 158) dX8_drawn_158 rfl ?_
      refine q_getR (pc := 159) dX8_drawn_159 fX8_25 rfl rfl ?_
      refine q_S1i (pc := 162) dX8_drawn_162 vX8_193 (Nat.le_of_ble_eq_true rfl) (Nat.le_of_ble_eq_true rfl) (t_X8_awryOf sh88 hT i1) (fun r1 σ1 hc1 => ?_)
      obtain ⟨rfl, rfl⟩ := hc1
      refine q_goto (pc := 165) (tgt := 170) dX8_drawn_165 (by decide) ?_
      refine q_ri (pc := 170) dX8_drawn_170 rfl ?_
      rw [show n.toNat = t by omega]
      exact ⟨by first | exact if_pos (by omega) | exact if_neg (by omega), hF⟩
  | succ m ih =>
    intro t σ' hm hF hT
    have h5 := hR.de
    have hl := hR.law h1
    have h4 := hR.2.1
    have hx0 := dX_in hse t
    have hx : 0 ≤ dX s t * 16807 % 2147483647 ∧ dX s t * 16807 % 2147483647 < 2147483647 := dX_in hse (t + 1)
    obtain ⟨i1, i2, i3, i4, i5⟩ := dG_row hR h1 hse t
    have h7 := pow7 h5
    have e5 : σ' 88 5 = f 5 := (hT 5 (by omega) (by omega)).trans (i2 5 (by omega))
    have e6 : σ' 88 6 = (dG f s t).1 6 := hT 6 (by omega) (by omega)
    have hi : 0 ≤ dX s (t + 1) % f 5 ∧ dX s (t + 1) % f 5 < f 5 := ⟨Int.emod_nonneg _ (by omega), Int.emod_lt_of_pos _ (by omega)⟩
    have hd := hR.d hi.1 hi.2
    have e1' := i2 (13 + 3 * (dX s (t + 1) % f 5)) (by omega)
    have e2' := i2 (14 + 3 * (dX s (t + 1) % f 5)) (by omega)
    have e3' := i2 (15 + 3 * (dX s (t + 1) % f 5)) (by omega)
    have hbit := qbit_i (a := (dG f s t).1 6) (i := dX s (t + 1) % f 5) (by omega) (by omega)
    have hq := qand_in (qshr ((dG f s t).1 6) (dX s (t + 1) % f 5)) 1
    by_cases hdn : mDone (dG f s t).1 (dX s (t + 1) % f 5)
    · have hdn' : qand (qshr ((dG f s t).1 6) (dX s (t + 1) % f 5)) 1 = 1 := hdn
      have eG : dG f s (t + 1) = (mHour (dG f s t).1, (dG f s t).2 + bi (mLevel (mHour (dG f s t).1))) := by
        show (mHour (if _ then _ else _), _ + bi (mLevel (mHour (if _ then _ else _)))) = _
        simp only [if_pos hdn]
      have hx3 := i2 3 (by omega)
      have hFx : Fr σ' σ' [88] := Fr.rf
      have hl1 : mHour (dG f s t).1 1 = f 1 := (mHour_o _ (by omega)).trans (i2 1 (by omega))
      have hl2 : mHour (dG f s t).1 2 = f 2 := (mHour_o _ (by omega)).trans (i2 2 (by omega))
      refine q_iload (pc := 66) dX8_drawn_66 rfl ?_
      refine q_iload_n (pc := 68) dX8_drawn_68 rfl ?_
      refine q_icmpge (pc := 69) (tgt := 154) dX8_drawn_69 (by decide) (by omega) (by omega) (fun h => absurd h (by omega)) (fun h69 => ?_)
      refine q_lload (pc := 72) dX8_drawn_72 rfl ?_
      refine q_ldc2 (pc := 74) (n := 16807) kX8_259 dX8_drawn_74 ?_
      refine q_lmul (pc := 77) dX8_drawn_77 ?_
      refine q_ldc2 (pc := 78) (n := 2147483647) kX8_261 dX8_drawn_78 ?_
      refine q_lrem (pc := 81) dX8_drawn_81 (by omega) ?_
      refine q_lstore (pc := 82) dX8_drawn_82 (Nat.le_of_ble_eq_true rfl) ?_
      refine q_lload (pc := 84) dX8_drawn_84 rfl ?_
      refine q_aload_n (pc := 86) dX8_drawn_86 rfl ?_
      refine q_getR (pc := 87) dX8_drawn_87 fX8_25 rfl rfl ?_
      refine q_iconst (pc := 90) dX8_drawn_90 ?_
      refine q_iald (pc := 91) dX8_drawn_91 rfl (by omega) ?_
      refine q_i2l (pc := 92) dX8_drawn_92 (by omega) ?_
      refine q_lrem (pc := 93) dX8_drawn_93 (by omega) ?_
      rw [e5, show dX s t * 16807 % 2147483647 = dX s (t + 1) from rfl]
      refine q_l2i (pc := 94) dX8_drawn_94 (by omega) ?_
      refine q_istore (pc := 95) dX8_drawn_95 (Nat.le_of_ble_eq_true rfl) ?_
      refine q_aload_n (pc := 97) dX8_drawn_97 rfl ?_
      refine q_getR (pc := 98) dX8_drawn_98 fX8_25 rfl rfl ?_
      refine q_bipush (pc := 101) dX8_drawn_101 (by decide +kernel) ?_
      refine q_iald (pc := 103) dX8_drawn_103 rfl (by omega) ?_
      rw [e6]
      refine q_iload (pc := 104) dX8_drawn_104 rfl ?_
      refine q_ishr (pc := 106) dX8_drawn_106 ?_
      refine q_iconst (pc := 107) dX8_drawn_107 ?_
      refine q_iand (pc := 108) dX8_drawn_108 ?_
      refine q_ifne (pc := 109) (tgt := 121) dX8_drawn_109 (by decide) (by omega) (fun h109 => ?_) (fun h => absurd h (by omega))
      refine q_aload_n (pc := 121) dX8_drawn_121 rfl ?_
      refine q_getR (pc := 122) dX8_drawn_122 fX8_25 rfl rfl ?_
      refine q_S1v (pc := 125) dX8_drawn_125 vX8_180 (Nat.le_of_ble_eq_true rfl) (Nat.le_of_ble_eq_true rfl) (t_X8_hour sh88 hT i1 (by omega) (by omega)) (fun σ1 hc1 => ?_)
      obtain ⟨hF1, hT1, hO1⟩ := hc1
      refine q_iload (pc := 128) dX8_drawn_128 rfl ?_
      refine q_aload_n (pc := 130) dX8_drawn_130 rfl ?_
      refine q_getR (pc := 131) dX8_drawn_131 fX8_25 rfl rfl ?_
      refine q_S1i (pc := 134) dX8_drawn_134 vX8_210 (Nat.le_of_ble_eq_true rfl) (Nat.le_of_ble_eq_true rfl) (t_X8_isLevel sh88 hT1 hO1 (by omega) (by omega)) (fun r2 σ2 hc2 => ?_)
      obtain ⟨rfl, rfl⟩ := hc2
      refine q_ifeqb (pc := 137) (tgt := 144) dX8_drawn_137 (by decide) (fun h137 => ?_) (fun h137 => ?_)
      · refine q_iconst (pc := 144) dX8_drawn_144 ?_
        refine q_iadd (pc := 145) dX8_drawn_145 ?_
        refine q_istore (pc := 146) dX8_drawn_146 (Nat.le_of_ble_eq_true rfl) ?_
        refine q_iinc (pc := 148) dX8_drawn_148 rfl (Nat.le_of_ble_eq_true rfl) ?_
        refine q_goto (pc := 151) (tgt := 66) dX8_drawn_151 (by decide) ?_
        have q := ih (t + 1) σ1 (by omega) (hF.tt (hFx.tt hF1)) (by rw [eG]; exact hT1)
        first
        | (rw [eG, bi_t (by assumption)] at q
           exact q_locs _ [0, 1, 3, 4, 5, 6, 7] rfl q)
        | (rw [eG, bi_f (by assumption)] at q
           exact q_locs _ [0, 1, 3, 4, 5, 6, 7] rfl q)
      · refine q_iconst (pc := 140) dX8_drawn_140 ?_
        refine q_goto (pc := 141) (tgt := 145) dX8_drawn_141 (by decide) ?_
        refine q_iadd (pc := 145) dX8_drawn_145 ?_
        refine q_istore (pc := 146) dX8_drawn_146 (Nat.le_of_ble_eq_true rfl) ?_
        refine q_iinc (pc := 148) dX8_drawn_148 rfl (Nat.le_of_ble_eq_true rfl) ?_
        refine q_goto (pc := 151) (tgt := 66) dX8_drawn_151 (by decide) ?_
        have q := ih (t + 1) σ1 (by omega) (hF.tt (hFx.tt hF1)) (by rw [eG]; exact hT1)
        first
        | (rw [eG, bi_t (by assumption)] at q
           exact q_locs _ [0, 1, 3, 4, 5, 6, 7] rfl q)
        | (rw [eG, bi_f (by assumption)] at q
           exact q_locs _ [0, 1, 3, 4, 5, 6, 7] rfl q)
    · have hdn' : qand (qshr ((dG f s t).1 6) (dX s (t + 1) % f 5)) 1 ≠ 1 := hdn
      have eG : dG f s (t + 1) = (mHour (mDo (dG f s t).1 (dX s (t + 1) % f 5)), (dG f s t).2 + bi (mLevel (mHour (mDo (dG f s t).1 (dX s (t + 1) % f 5))))) := by
        show (mHour (if _ then _ else _), _ + bi (mLevel (mHour (if _ then _ else _)))) = _
        simp only [if_neg hdn]
      have hox : ∀ j, j < 6 ∨ 12 < j → mDo (dG f s t).1 (dX s (t + 1) % f 5) j = (dG f s t).1 j := fun j hj => by
        unfold mDo
        rw [u1_ne (by omega), mAct_o _ _ _ _ (by rw [e2']; exact hd.2.1.1) (by rw [e2']; exact hd.2.1.2) (by omega)]
      have hx3 := (hox 3 (by omega)).trans (i2 3 (by omega))
      have hx4 := (hox 4 (by omega)).trans i3
      have hl1 : mHour (mDo (dG f s t).1 (dX s (t + 1) % f 5)) 1 = f 1 := (mHour_o _ (by omega)).trans ((hox 1 (by omega)).trans (i2 1 (by omega)))
      have hl2 : mHour (mDo (dG f s t).1 (dX s (t + 1) % f 5)) 2 = f 2 := (mHour_o _ (by omega)).trans ((hox 2 (by omega)).trans (i2 2 (by omega)))
      refine q_iload (pc := 66) dX8_drawn_66 rfl ?_
      refine q_iload_n (pc := 68) dX8_drawn_68 rfl ?_
      refine q_icmpge (pc := 69) (tgt := 154) dX8_drawn_69 (by decide) (by omega) (by omega) (fun h => absurd h (by omega)) (fun h69 => ?_)
      refine q_lload (pc := 72) dX8_drawn_72 rfl ?_
      refine q_ldc2 (pc := 74) (n := 16807) kX8_259 dX8_drawn_74 ?_
      refine q_lmul (pc := 77) dX8_drawn_77 ?_
      refine q_ldc2 (pc := 78) (n := 2147483647) kX8_261 dX8_drawn_78 ?_
      refine q_lrem (pc := 81) dX8_drawn_81 (by omega) ?_
      refine q_lstore (pc := 82) dX8_drawn_82 (Nat.le_of_ble_eq_true rfl) ?_
      refine q_lload (pc := 84) dX8_drawn_84 rfl ?_
      refine q_aload_n (pc := 86) dX8_drawn_86 rfl ?_
      refine q_getR (pc := 87) dX8_drawn_87 fX8_25 rfl rfl ?_
      refine q_iconst (pc := 90) dX8_drawn_90 ?_
      refine q_iald (pc := 91) dX8_drawn_91 rfl (by omega) ?_
      refine q_i2l (pc := 92) dX8_drawn_92 (by omega) ?_
      refine q_lrem (pc := 93) dX8_drawn_93 (by omega) ?_
      rw [e5, show dX s t * 16807 % 2147483647 = dX s (t + 1) from rfl]
      refine q_l2i (pc := 94) dX8_drawn_94 (by omega) ?_
      refine q_istore (pc := 95) dX8_drawn_95 (Nat.le_of_ble_eq_true rfl) ?_
      refine q_aload_n (pc := 97) dX8_drawn_97 rfl ?_
      refine q_getR (pc := 98) dX8_drawn_98 fX8_25 rfl rfl ?_
      refine q_bipush (pc := 101) dX8_drawn_101 (by decide +kernel) ?_
      refine q_iald (pc := 103) dX8_drawn_103 rfl (by omega) ?_
      rw [e6]
      refine q_iload (pc := 104) dX8_drawn_104 rfl ?_
      refine q_ishr (pc := 106) dX8_drawn_106 ?_
      refine q_iconst (pc := 107) dX8_drawn_107 ?_
      refine q_iand (pc := 108) dX8_drawn_108 ?_
      refine q_ifne (pc := 109) (tgt := 121) dX8_drawn_109 (by decide) (by omega) (fun h => absurd h (by omega)) (fun h109 => ?_)
      refine q_aload_n (pc := 112) dX8_drawn_112 rfl ?_
      refine q_getR (pc := 113) dX8_drawn_113 fX8_25 rfl rfl ?_
      refine q_iload (pc := 116) dX8_drawn_116 rfl ?_
      refine q_S2v (pc := 118) dX8_drawn_118 vX8_202 (Nat.le_of_ble_eq_true rfl) (Nat.le_of_ble_eq_true rfl) (t_X8_does0 sh88 hT i1 (by omega) (by rw [e1', e2', e3']; exact hd)) (fun σ1 hc1 => ?_)
      obtain ⟨hF1, hT1, hO1⟩ := hc1
      have hFx := hF1
      refine q_aload_n (pc := 121) dX8_drawn_121 rfl ?_
      refine q_getR (pc := 122) dX8_drawn_122 fX8_25 rfl rfl ?_
      refine q_S1v (pc := 125) dX8_drawn_125 vX8_180 (Nat.le_of_ble_eq_true rfl) (Nat.le_of_ble_eq_true rfl) (t_X8_hour sh88 hT1 hO1 (by omega) (by omega)) (fun σ2 hc2 => ?_)
      obtain ⟨hF2, hT2, hO2⟩ := hc2
      refine q_iload (pc := 128) dX8_drawn_128 rfl ?_
      refine q_aload_n (pc := 130) dX8_drawn_130 rfl ?_
      refine q_getR (pc := 131) dX8_drawn_131 fX8_25 rfl rfl ?_
      refine q_S1i (pc := 134) dX8_drawn_134 vX8_210 (Nat.le_of_ble_eq_true rfl) (Nat.le_of_ble_eq_true rfl) (t_X8_isLevel sh88 hT2 hO2 (by omega) (by omega)) (fun r3 σ3 hc3 => ?_)
      obtain ⟨rfl, rfl⟩ := hc3
      refine q_ifeqb (pc := 137) (tgt := 144) dX8_drawn_137 (by decide) (fun h137 => ?_) (fun h137 => ?_)
      · refine q_iconst (pc := 144) dX8_drawn_144 ?_
        refine q_iadd (pc := 145) dX8_drawn_145 ?_
        refine q_istore (pc := 146) dX8_drawn_146 (Nat.le_of_ble_eq_true rfl) ?_
        refine q_iinc (pc := 148) dX8_drawn_148 rfl (Nat.le_of_ble_eq_true rfl) ?_
        refine q_goto (pc := 151) (tgt := 66) dX8_drawn_151 (by decide) ?_
        have q := ih (t + 1) σ2 (by omega) (hF.tt (hFx.tt hF2)) (by rw [eG]; exact hT2)
        first
        | (rw [eG, bi_t (by assumption)] at q
           exact q_locs _ [0, 1, 3, 4, 5, 6, 7] rfl q)
        | (rw [eG, bi_f (by assumption)] at q
           exact q_locs _ [0, 1, 3, 4, 5, 6, 7] rfl q)
      · refine q_iconst (pc := 140) dX8_drawn_140 ?_
        refine q_goto (pc := 141) (tgt := 145) dX8_drawn_141 (by decide) ?_
        refine q_iadd (pc := 145) dX8_drawn_145 ?_
        refine q_istore (pc := 146) dX8_drawn_146 (Nat.le_of_ble_eq_true rfl) ?_
        refine q_iinc (pc := 148) dX8_drawn_148 rfl (Nat.le_of_ble_eq_true rfl) ?_
        refine q_goto (pc := 151) (tgt := 66) dX8_drawn_151 (by decide) ?_
        have q := ih (t + 1) σ2 (by omega) (hF.tt (hFx.tt hF2)) (by rw [eG]; exact hT2)
        first
        | (rw [eG, bi_t (by assumption)] at q
           exact q_locs _ [0, 1, 3, 4, 5, 6, 7] rfl q)
        | (rw [eG, bi_f (by assumption)] at q
           exact q_locs _ [0, 1, 3, 4, 5, 6, 7] rfl q)
theorem m_drawn {n s w : Int} (hM : MR σ A) (hV : AV A) (hn : -2147483648 ≤ n ∧ n ≤ 2147483647) (hs : -2147483648 ≤ s ∧ s ≤ 2147483647) (hw : -2147483648 ≤ w ∧ w ≤ 2147483647) : qE G mX8_drawn (d + 4) 0 [(0, vr 82), (1, vi n), (2, vi s), (3, vi w)] [] σ (ri (pM σ (s_drawn A n s w))) := by
  have hR := hV.1
  have h01 := hR.f0
  refine q_aload_n (pc := 0) dX8_drawn_0 rfl ?_
  refine q_iconst (pc := 1) dX8_drawn_1 ?_
  refine q_pI (pc := 2) 0 dX8_drawn_2 wX8_50 rfl rfl rfl ?_
  have hM := hM.fld (i := 0) (v := 0) (by decide)
  have hF0 : ∀ j, j < 82 → up σ 82 0 0 j = σ j := fun j hj => up_ne (by omega)
  generalize up σ 82 0 0 = τ at hM hF0 ⊢
  refine q_aload_n (pc := 5) dX8_drawn_5 rfl ?_
  refine q_V0i (pc := 6) dX8_drawn_6 vX8_184 rfl rfl (Nat.le_of_ble_eq_true rfl) (Nat.le_of_ble_eq_true rfl) (t_X8_isThere hM.1 h01) (fun r1 σ1 hc1 => ?_)
  obtain ⟨rfl, rfl⟩ := hc1
  refine q_ifneb (pc := 9) (tgt := 15) dX8_drawn_9 (by decide) (fun h9 => ?_) (fun h9 => ?_)
  · refine q_iload_n (pc := 15) dX8_drawn_15 rfl ?_
    refine q_i2l (pc := 16) dX8_drawn_16 (by omega) ?_
    refine q_lconst0 (pc := 17) dX8_drawn_17 ?_
    refine q_ldc2 (pc := 18) (n := 60) kX8_214 dX8_drawn_18 ?_
    refine q_S3i (pc := 21) dX8_drawn_21 vX8_60 (Nat.le_of_ble_eq_true rfl) (Nat.le_of_ble_eq_true rfl) (t_X8_in (by omega) (by omega) (by omega)) (fun r2 σ2 hc2 => ?_)
    obtain ⟨rfl, rfl⟩ := hc2
    refine q_ifeqb (pc := 24) (tgt := 49) dX8_drawn_24 (by decide) (fun h24 => ?_) (fun h24 => ?_)
    · refine q_ldc (pc := 49) (n := -1000001) kX8_70 dX8_drawn_49 ?_
      refine q_ri (pc := 51) dX8_drawn_51 rfl ?_
      refine pM.q0 hF0 hM ?_
      repeat' (first | rw [if_neg (by omega)] | rw [if_pos (by omega)])
    · refine q_iload_n (pc := 27) dX8_drawn_27 rfl ?_
      refine q_i2l (pc := 28) dX8_drawn_28 (by omega) ?_
      refine q_lconst1 (pc := 29) dX8_drawn_29 ?_
      refine q_ldc2 (pc := 30) (n := 999999) kX8_257 dX8_drawn_30 ?_
      refine q_S3i (pc := 33) dX8_drawn_33 vX8_60 (Nat.le_of_ble_eq_true rfl) (Nat.le_of_ble_eq_true rfl) (t_X8_in (by omega) (by omega) (by omega)) (fun r3 σ3 hc3 => ?_)
      obtain ⟨rfl, rfl⟩ := hc3
      refine q_ifeqb (pc := 36) (tgt := 49) dX8_drawn_36 (by decide) (fun h36 => ?_) (fun h36 => ?_)
      · refine q_ldc (pc := 49) (n := -1000001) kX8_70 dX8_drawn_49 ?_
        refine q_ri (pc := 51) dX8_drawn_51 rfl ?_
        refine pM.q0 hF0 hM ?_
        repeat' (first | rw [if_neg (by omega)] | rw [if_pos (by omega)])
      · refine q_iload_n (pc := 39) dX8_drawn_39 rfl ?_
        refine q_i2l (pc := 40) dX8_drawn_40 (by omega) ?_
        refine q_lconst0 (pc := 41) dX8_drawn_41 ?_
        refine q_lconst1 (pc := 42) dX8_drawn_42 ?_
        refine q_S3i (pc := 43) dX8_drawn_43 vX8_60 (Nat.le_of_ble_eq_true rfl) (Nat.le_of_ble_eq_true rfl) (t_X8_in (by omega) (by omega) (by omega)) (fun r4 σ4 hc4 => ?_)
        obtain ⟨rfl, rfl⟩ := hc4
        refine q_ifneb (pc := 46) (tgt := 52) dX8_drawn_46 (by decide) (fun h46 => ?_) (fun h46 => ?_)
        · refine q_aload_n (pc := 52) dX8_drawn_52 rfl ?_
          refine q_V0v (pc := 53) dX8_drawn_53 vX8_216 rfl rfl (Nat.le_of_ble_eq_true rfl) (Nat.le_of_ble_eq_true rfl) (t_X8_layThen hM.1) (fun σ5 hc5 => ?_)
          obtain ⟨hF5, hT5⟩ := hc5
          refine q_iload_n (pc := 56) dX8_drawn_56 rfl ?_
          refine q_i2l (pc := 57) dX8_drawn_57 (by omega) ?_
          refine q_lstore (pc := 58) dX8_drawn_58 (Nat.le_of_ble_eq_true rfl) ?_
          refine q_iconst (pc := 60) dX8_drawn_60 ?_
          refine q_istore (pc := 61) dX8_drawn_61 (Nat.le_of_ble_eq_true rfl) ?_
          refine q_iconst (pc := 63) dX8_drawn_63 ?_
          refine q_istore (pc := 64) dX8_drawn_64 (Nat.le_of_ble_eq_true rfl) ?_
          refine q_mono (fun v σ' h => ?_) (m_draw_l hR (by omega) (by omega) (by omega) (by omega) n.toNat 0 _ (by omega) Fr.rf hT5)
          obtain ⟨x, h1, h2, h3⟩ := h
          refine ⟨x, h1, pM.q hF0 hM (hF5.tt h3) (scr_im (by decide)) ?_⟩
          rw [if_pos (by omega), if_pos (by omega)]
          exact h2
        · refine q_ldc (pc := 49) (n := -1000001) kX8_70 dX8_drawn_49 ?_
          refine q_ri (pc := 51) dX8_drawn_51 rfl ?_
          refine pM.q0 hF0 hM ?_
          repeat' (first | rw [if_neg (by omega)] | rw [if_pos (by omega)])
  · refine q_ldc (pc := 12) (n := -1000002) kX8_187 dX8_drawn_12 ?_
    refine q_ri (pc := 14) dX8_drawn_14 rfl ?_
    refine pM.q0 hF0 hM ?_
    repeat' (first | rw [if_neg (by omega)] | rw [if_pos (by omega)])
end T8
