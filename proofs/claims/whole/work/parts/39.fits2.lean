/-! ===== the reference: who, feet, amounts ===== -/
section T8
variable {G : qGl} {d : Nat} {σ : qM} {A : qA} {f : Int → Int}
theorem m_so_l {h : Int → Int} {w a n : Int} {told : Int → Int} (h3 : 1 ≤ h 3 ∧ h 3 ≤ 9) (h4 : 0 ≤ h 4 ∧ h 4 ≤ 10000) (hO : mOk h) (hw : w = 0 ∨ w = 1) (hn : 1 ≤ n ∧ n ≤ 12) (hi : 0 ≤ a ∧ a + n ≤ 320) (ht : ∀ t : Nat, (t : Int) < n → σ 85 (a + t) = told t) (htr : ∀ t : Nat, (t : Int) < n → -2147483648 ≤ told t ∧ told t ≤ 2147483647) : ∀ (m t : Nat) (b : Int) (σ' : qM), (m : Int) + t = n → Fr σ σ' [88] → RwR σ' 88 (mHours t h) → (b = 0 ∨ b = 1) → (b = 1 ↔ ∀ s : Nat, s < t → mTl w (mHours (s + 1) h) = told s) → qE G mX8_leansSo (d + 2) 6 [(5, vi t), (4, vi b), (0, vr 82), (1, vi w), (2, vi a), (3, vi n)] [] σ' (ri fun r σ1 => bi (mSo h w told n.toNat) = r ∧ Fr σ σ1 [88]) := by
  intro m
  induction m with
  | zero =>
    intro t b σ' hm hF hT hb hx
    refine q_iload (pc := 6) dX8_leansSo_6 rfl ?_
    refine q_iload_n (pc := 8) dX8_leansSo_8 rfl ?_
    refine q_icmpge (pc := 9) (tgt := 70) dX8_leansSo_9 (by decide) (by omega) (by omega) (fun h9 => ?_) (fun h => absurd h (by omega))
    refine q_iload (pc := 70) dX8_leansSo_70 rfl ?_
    refine q_rz (pc := 72) dX8_leansSo_72 rfl (by first | exact bi_01 _ | omega) ?_
    refine ⟨?_, hF⟩
    rcases hb with rfl | rfl
    · exact bi_f (fun z => by have := hx.mpr (fun s hs => z s (by omega)); omega)
    · exact bi_t (fun s hs => hx.mp rfl s (by omega))
  | succ m ih =>
    intro t b σ' hm hF hT hb hx
    have hOt := mHours_ok hO t
    have e3 := mHours_o h (j := 3) (by omega) t
    have e4 := mHours_4 h t
    have htl : ∀ w', -1000 ≤ mTl w' (mHours (t + 1) h) ∧ mTl w' (mHours (t + 1) h) ≤ 1000 := by
      intro w'
      obtain ⟨a, b, c, -⟩ := mHours_ok hO (t + 1)
      unfold mTl mSide mAlong mMid
      split <;> omega
    have htl := htl w
    have hrt := htr t (by omega)
    refine q_iload (pc := 6) dX8_leansSo_6 rfl ?_
    refine q_iload_n (pc := 8) dX8_leansSo_8 rfl ?_
    refine q_icmpge (pc := 9) (tgt := 70) dX8_leansSo_9 (by decide) (by omega) (by omega) (fun h => absurd h (by omega)) (fun h9 => ?_)
    refine q_aload_n (pc := 12) dX8_leansSo_12 rfl ?_
    refine q_getR (pc := 13) dX8_leansSo_13 fX8_25 rfl rfl ?_
    refine q_S1v (pc := 16) dX8_leansSo_16 vX8_180 (Nat.le_of_ble_eq_true rfl) (Nat.le_of_ble_eq_true rfl) (t_X8_hour sh88 hT hOt (by omega) (by omega)) (fun σ1 hc1 => ?_)
    obtain ⟨hF1, hT1, hO1⟩ := hc1
    refine q_iload (pc := 19) dX8_leansSo_19 rfl ?_
    refine q_ifeq (pc := 21) (tgt := 61) dX8_leansSo_21 (by decide) (by omega) (fun h21 => ?_) (fun h21 => ?_)
    · refine q_iconst (pc := 61) dX8_leansSo_61 ?_
      refine q_istore (pc := 62) dX8_leansSo_62 (Nat.le_of_ble_eq_true rfl) ?_
      refine q_iinc (pc := 64) dX8_leansSo_64 rfl (Nat.le_of_ble_eq_true rfl) ?_
      refine q_goto (pc := 67) (tgt := 6) dX8_leansSo_67 (by decide) ?_
      first
      | (have q := ih (t + 1) 1 σ1 (by omega) (hF.tt hF1) hT1 (by omega) ⟨fun _ s hs => by
           by_cases c : s = t
           · subst c; omega
           · exact hx.mp (by omega) s (by omega), fun _ => rfl⟩
         exact q_locs _ [0, 1, 2, 3, 4, 5] rfl q)
      | (have q := ih (t + 1) 0 σ1 (by omega) (hF.tt hF1) hT1 (by omega) ⟨fun z => absurd z (by omega), fun z => by
           have z1 := hx.mpr (fun s hs => z s (by omega))
           have z2 := z t (by omega)
           omega⟩
         exact q_locs _ [0, 1, 2, 3, 4, 5] rfl q)
    · refine q_iload_n (pc := 24) dX8_leansSo_24 rfl ?_
      refine q_ifne (pc := 25) (tgt := 38) dX8_leansSo_25 (by decide) (by omega) (fun h25 => ?_) (fun h25 => ?_)
      · refine q_aload_n (pc := 38) dX8_leansSo_38 rfl ?_
        refine q_getR (pc := 39) dX8_leansSo_39 fX8_25 rfl rfl ?_
        refine q_S1i (pc := 42) dX8_leansSo_42 vX8_165 (Nat.le_of_ble_eq_true rfl) (Nat.le_of_ble_eq_true rfl) (t_X8_alongOf sh88 hT1 hO1) (fun r2 σ2 hc2 => ?_)
        obtain ⟨rfl, rfl⟩ := hc2
        have et' : σ1 85 (a + t) = told t := by rw [hF1 85 (by simp), hF 85 (by simp)]; exact ht t (by omega)
        first
        | rw [show mSide (mHour (mHours t h)) = mTl w (mHours (t + 1) h) from (if_pos (by omega)).symm]
        | rw [show mAlong (mHour (mHours t h)) = mTl w (mHours (t + 1) h) from (if_neg (by omega)).symm]
        refine q_aload_n (pc := 45) dX8_leansSo_45 rfl ?_
        refine q_getR (pc := 46) dX8_leansSo_46 fX8_16 rfl rfl ?_
        refine q_iload_n (pc := 49) dX8_leansSo_49 rfl ?_
        refine q_iload (pc := 50) dX8_leansSo_50 rfl ?_
        refine q_iadd (pc := 52) dX8_leansSo_52 ?_
        refine q_iald (pc := 53) dX8_leansSo_53 rfl (by omega) ?_
        refine q_icmpne (pc := 54) (tgt := 61) dX8_leansSo_54 (by decide) (by omega) (by omega) (fun h54 => ?_) (fun h54 => ?_)
        · refine q_iconst (pc := 61) dX8_leansSo_61 ?_
          refine q_istore (pc := 62) dX8_leansSo_62 (Nat.le_of_ble_eq_true rfl) ?_
          refine q_iinc (pc := 64) dX8_leansSo_64 rfl (Nat.le_of_ble_eq_true rfl) ?_
          refine q_goto (pc := 67) (tgt := 6) dX8_leansSo_67 (by decide) ?_
          first
          | (have q := ih (t + 1) 1 σ1 (by omega) (hF.tt hF1) hT1 (by omega) ⟨fun _ s hs => by
               by_cases c : s = t
               · subst c; omega
               · exact hx.mp (by omega) s (by omega), fun _ => rfl⟩
             exact q_locs _ [0, 1, 2, 3, 4, 5] rfl q)
          | (have q := ih (t + 1) 0 σ1 (by omega) (hF.tt hF1) hT1 (by omega) ⟨fun z => absurd z (by omega), fun z => by
               have z1 := hx.mpr (fun s hs => z s (by omega))
               have z2 := z t (by omega)
               omega⟩
             exact q_locs _ [0, 1, 2, 3, 4, 5] rfl q)
        · refine q_iconst (pc := 57) dX8_leansSo_57 ?_
          refine q_goto (pc := 58) (tgt := 62) dX8_leansSo_58 (by decide) ?_
          refine q_istore (pc := 62) dX8_leansSo_62 (Nat.le_of_ble_eq_true rfl) ?_
          refine q_iinc (pc := 64) dX8_leansSo_64 rfl (Nat.le_of_ble_eq_true rfl) ?_
          refine q_goto (pc := 67) (tgt := 6) dX8_leansSo_67 (by decide) ?_
          first
          | (have q := ih (t + 1) 1 σ1 (by omega) (hF.tt hF1) hT1 (by omega) ⟨fun _ s hs => by
               by_cases c : s = t
               · subst c; omega
               · exact hx.mp (by omega) s (by omega), fun _ => rfl⟩
             exact q_locs _ [0, 1, 2, 3, 4, 5] rfl q)
          | (have q := ih (t + 1) 0 σ1 (by omega) (hF.tt hF1) hT1 (by omega) ⟨fun z => absurd z (by omega), fun z => by
               have z1 := hx.mpr (fun s hs => z s (by omega))
               have z2 := z t (by omega)
               omega⟩
             exact q_locs _ [0, 1, 2, 3, 4, 5] rfl q)
      · refine q_aload_n (pc := 28) dX8_leansSo_28 rfl ?_
        refine q_getR (pc := 29) dX8_leansSo_29 fX8_25 rfl rfl ?_
        refine q_S1i (pc := 32) dX8_leansSo_32 vX8_159 (Nat.le_of_ble_eq_true rfl) (Nat.le_of_ble_eq_true rfl) (t_X8_sideOf sh88 hT1) (fun r3 σ3 hc3 => ?_)
        obtain ⟨rfl, rfl⟩ := hc3
        refine q_goto (pc := 35) (tgt := 45) dX8_leansSo_35 (by decide) ?_
        have et' : σ1 85 (a + t) = told t := by rw [hF1 85 (by simp), hF 85 (by simp)]; exact ht t (by omega)
        first
        | rw [show mSide (mHour (mHours t h)) = mTl w (mHours (t + 1) h) from (if_pos (by omega)).symm]
        | rw [show mAlong (mHour (mHours t h)) = mTl w (mHours (t + 1) h) from (if_neg (by omega)).symm]
        refine q_aload_n (pc := 45) dX8_leansSo_45 rfl ?_
        refine q_getR (pc := 46) dX8_leansSo_46 fX8_16 rfl rfl ?_
        refine q_iload_n (pc := 49) dX8_leansSo_49 rfl ?_
        refine q_iload (pc := 50) dX8_leansSo_50 rfl ?_
        refine q_iadd (pc := 52) dX8_leansSo_52 ?_
        refine q_iald (pc := 53) dX8_leansSo_53 rfl (by omega) ?_
        refine q_icmpne (pc := 54) (tgt := 61) dX8_leansSo_54 (by decide) (by omega) (by omega) (fun h54 => ?_) (fun h54 => ?_)
        · refine q_iconst (pc := 61) dX8_leansSo_61 ?_
          refine q_istore (pc := 62) dX8_leansSo_62 (Nat.le_of_ble_eq_true rfl) ?_
          refine q_iinc (pc := 64) dX8_leansSo_64 rfl (Nat.le_of_ble_eq_true rfl) ?_
          refine q_goto (pc := 67) (tgt := 6) dX8_leansSo_67 (by decide) ?_
          first
          | (have q := ih (t + 1) 1 σ1 (by omega) (hF.tt hF1) hT1 (by omega) ⟨fun _ s hs => by
               by_cases c : s = t
               · subst c; omega
               · exact hx.mp (by omega) s (by omega), fun _ => rfl⟩
             exact q_locs _ [0, 1, 2, 3, 4, 5] rfl q)
          | (have q := ih (t + 1) 0 σ1 (by omega) (hF.tt hF1) hT1 (by omega) ⟨fun z => absurd z (by omega), fun z => by
               have z1 := hx.mpr (fun s hs => z s (by omega))
               have z2 := z t (by omega)
               omega⟩
             exact q_locs _ [0, 1, 2, 3, 4, 5] rfl q)
        · refine q_iconst (pc := 57) dX8_leansSo_57 ?_
          refine q_goto (pc := 58) (tgt := 62) dX8_leansSo_58 (by decide) ?_
          refine q_istore (pc := 62) dX8_leansSo_62 (Nat.le_of_ble_eq_true rfl) ?_
          refine q_iinc (pc := 64) dX8_leansSo_64 rfl (Nat.le_of_ble_eq_true rfl) ?_
          refine q_goto (pc := 67) (tgt := 6) dX8_leansSo_67 (by decide) ?_
          first
          | (have q := ih (t + 1) 1 σ1 (by omega) (hF.tt hF1) hT1 (by omega) ⟨fun _ s hs => by
               by_cases c : s = t
               · subst c; omega
               · exact hx.mp (by omega) s (by omega), fun _ => rfl⟩
             exact q_locs _ [0, 1, 2, 3, 4, 5] rfl q)
          | (have q := ih (t + 1) 0 σ1 (by omega) (hF.tt hF1) hT1 (by omega) ⟨fun z => absurd z (by omega), fun z => by
               have z1 := hx.mpr (fun s hs => z s (by omega))
               have z2 := z t (by omega)
               omega⟩
             exact q_locs _ [0, 1, 2, 3, 4, 5] rfl q)
theorem t_X8_leansSo {h : Int → Int} {w a n : Int} {told : Int → Int} (hT : RwR σ 88 h) (h3 : 1 ≤ h 3 ∧ h 3 ≤ 9) (h4 : 0 ≤ h 4 ∧ h 4 ≤ 10000) (hO : mOk h) (hw : w = 0 ∨ w = 1) (hn : 1 ≤ n ∧ n ≤ 12) (hi : 0 ≤ a ∧ a + n ≤ 320) (ht : ∀ t : Nat, (t : Int) < n → σ 85 (a + t) = told t) (htr : ∀ t : Nat, (t : Int) < n → -2147483648 ≤ told t ∧ told t ≤ 2147483647) : qE G mX8_leansSo (d + 2) 0 [(0, vr 82), (1, vi w), (2, vi a), (3, vi n)] [] σ (ri fun r σ1 => bi (mSo h w told n.toNat) = r ∧ Fr σ σ1 [88]) := by
  refine q_iconst (pc := 0) dX8_leansSo_0 ?_
  refine q_istore (pc := 1) dX8_leansSo_1 (Nat.le_of_ble_eq_true rfl) ?_
  refine q_iconst (pc := 3) dX8_leansSo_3 ?_
  refine q_istore (pc := 4) dX8_leansSo_4 (Nat.le_of_ble_eq_true rfl) ?_
  exact m_so_l h3 h4 hO hw hn hi ht htr n.toNat 0 1 σ (by omega) Fr.rf hT (by omega) ⟨fun _ s hs => absurd hs (by omega), fun _ => rfl⟩
theorem m_fits_l {b lo hi deed w r i n : Int} {told : Int → Int} (hM0 : MR σ (aS A 0)) (hV : AV A) (hb : byOk b lo hi) (hd : 0 ≤ deed ∧ deed < A.1 5) (hw : 0 ≤ w ∧ w ≤ 1) (hr : 0 ≤ r ∧ r ≤ 7) (hn : 1 ≤ n ∧ n ≤ 12) (hin : 0 ≤ i ∧ i + n ≤ A.2.2.2.2.1.2.1 r) (htd : told = fun t => A.2.2.2.2.1.2.2 r (i + t)) : ∀ (m k : Nat) (σ' : qM), (m : Int) + k = hi + 1 - lo → Fr σ σ' [88] → qE G mX8_fits (d + 5) 108 [(10, vi (lo + k)), (9, vi (mFt (fP A.1 deed w b told n.toNat) lo k)), (0, vr 82), (1, vi deed), (2, vi w), (3, vi r), (4, vi i), (5, vi n), (6, vi b), (8, vi hi)] [] σ' (ri fun x σ1 => mFt (fP A.1 deed w b told n.toNat) lo (hi + 1 - lo).toNat = x ∧ Fr σ σ1 [88]) := by
  have hbb : (0 ≤ lo ∧ hi ≤ 20) ∧ 0 ≤ b ∧ b ≤ 2 := by rcases hb with q | q | q <;> omega
  have hR := hV.1
  have h5 := hR.de
  have h1 := hR.one hd.1 hd.2
  have hl := hR.law h1
  have h4 := hR.2.1
  intro m
  induction m with
  | zero =>
    intro k σ' hm hF
    refine q_iload (pc := 108) dX8_fits_108 rfl ?_
    refine q_iload (pc := 110) dX8_fits_110 rfl ?_
    refine q_icmpgt (pc := 112) (tgt := 179) dX8_fits_112 (by decide) (by omega) (by omega) (fun h112 => ?_) (fun h => absurd h (by omega))
    refine q_iload (pc := 179) dX8_fits_179 rfl ?_
    refine q_ri (pc := 181) dX8_fits_181 rfl ?_
    exact ⟨by rw [show (hi + 1 - lo).toNat = k by omega], hF⟩
  | succ m ih =>
    intro k σ' hm hF
    have hM := hM0.fr hF (scr_im (by decide))
    have hS : ShM σ' A.2.2.2.2.1.1 A.2.2.2.2.1.2.1 A.2.2.2.2.1.2.2 := hM.2.2.2.2.1
    have hS := hS r hr.1 hr.2
    have hv := hV.2.2.2.2.1 r hr.1 hr.2
    have hv2 := hv.2.1
    obtain ⟨t1, t2, t3⟩ := tl_eq (w := w) hR hd hb (v := lo + k) (by omega)
    have hRv := by_row hR hd hb (v := lo + k) (by omega)
    have hmf := mFt_in (fP A.1 deed w b told n.toNat) lo k
    have hd' : 0 ≤ deed ∧ deed < u1 A.1 (13 + 3 * deed + b) (lo + k) 5 := by rw [u1_ne (by omega)]; exact hd
    refine q_iload (pc := 108) dX8_fits_108 rfl ?_
    refine q_iload (pc := 110) dX8_fits_110 rfl ?_
    refine q_icmpgt (pc := 112) (tgt := 179) dX8_fits_112 (by decide) (by omega) (by omega) (fun h => absurd h (by omega)) (fun h112 => ?_)
    refine q_aload_n (pc := 115) dX8_fits_115 rfl ?_
    refine q_V0v (pc := 116) dX8_fits_116 vX8_216 rfl rfl (Nat.le_of_ble_eq_true rfl) (Nat.le_of_ble_eq_true rfl) (t_X8_layThen hM.1) (fun σ1 hc1 => ?_)
    obtain ⟨hF1, hT1⟩ := hc1
    refine q_aload_n (pc := 119) dX8_fits_119 rfl ?_
    refine q_getR (pc := 120) dX8_fits_120 fX8_25 rfl rfl ?_
    refine q_bipush (pc := 123) dX8_fits_123 (by decide +kernel) ?_
    refine q_iconst (pc := 125) dX8_fits_125 ?_
    refine q_iload_n (pc := 126) dX8_fits_126 rfl ?_
    refine q_imul (pc := 127) dX8_fits_127 ?_
    refine q_iadd (pc := 128) dX8_fits_128 ?_
    refine q_iload (pc := 129) dX8_fits_129 rfl ?_
    refine q_iadd (pc := 131) dX8_fits_131 ?_
    refine q_iload (pc := 132) dX8_fits_132 rfl ?_
    refine q_iast (pc := 134) dX8_fits_134 rfl (by omega) ?_
    have hT0 : RwR (up σ1 88 (13 + 3 * deed + b) (lo + k)) 88 (u1 A.1 (13 + 3 * deed + b) (lo + k)) := RwR.up hT1
    have hF0 : Fr σ' (up σ1 88 (13 + 3 * deed + b) (lo + k)) [88] := hF1.tt (Fr.up (by simp))
    refine q_aload_n (pc := 135) dX8_fits_135 rfl ?_
    refine q_getR (pc := 136) dX8_fits_136 fX8_25 rfl rfl ?_
    refine q_iload_n (pc := 139) dX8_fits_139 rfl ?_
    refine q_S2v (pc := 140) dX8_fits_140 vX8_202 (Nat.le_of_ble_eq_true rfl) (Nat.le_of_ble_eq_true rfl) (t_X8_does sh88 hT0 hRv hd') (fun σ2 hc2 => ?_)
    obtain ⟨hF2, hT2, hO2⟩ := hc2
    refine q_iload (pc := 143) dX8_fits_143 rfl ?_
    refine q_aload_n (pc := 145) dX8_fits_145 rfl ?_
    refine q_iload_n (pc := 146) dX8_fits_146 rfl ?_
    refine q_bipush (pc := 147) dX8_fits_147 (by decide +kernel) ?_
    refine q_iload_n (pc := 149) dX8_fits_149 rfl ?_
    refine q_imul (pc := 150) dX8_fits_150 ?_
    refine q_iload (pc := 151) dX8_fits_151 rfl ?_
    refine q_iadd (pc := 153) dX8_fits_153 ?_
    refine q_iload (pc := 154) dX8_fits_154 rfl ?_
    refine q_V3i (pc := 156) dX8_fits_156 vX8_243 rfl rfl (Nat.le_of_ble_eq_true rfl) (Nat.le_of_ble_eq_true rfl) (t_X8_leansSo (told := told) hT2 (by rw [t2]; exact hl.2.2.1) (by rw [t3]; omega) t1 (by omega) hn (by omega) (fun t ht => by rw [hF2 85 (by simp), hF0 85 (by simp), htd, show 40 * r + i + (t : Int) = 40 * r + (i + t) by omega]; exact hS.2.2 _ (by omega) (by omega)) (fun t ht => by rw [htd]; exact hv.2.2 _ (by omega) (by omega))) (fun r3 σ3 hc3 => ?_)
    obtain ⟨rfl, hF3⟩ := hc3
    refine q_ifeqb (pc := 159) (tgt := 169) dX8_fits_159 (by decide) (fun h159 => ?_) (fun h159 => ?_)
    · refine q_iconst (pc := 169) dX8_fits_169 ?_
      refine q_ior (pc := 170) dX8_fits_170 ?_
      refine q_istore (pc := 171) dX8_fits_171 (Nat.le_of_ble_eq_true rfl) ?_
      refine q_iinc (pc := 173) dX8_fits_173 rfl (Nat.le_of_ble_eq_true rfl) ?_
      refine q_goto (pc := 176) (tgt := 108) dX8_fits_176 (by decide) ?_
      first
      | (have e : mFt (fP A.1 deed w b told n.toNat) lo (k + 1) = mFt (fP A.1 deed w b told n.toNat) lo k := if_neg (by assumption)
         have q := ih (k + 1) σ3 (by omega) (hF.tt ((hF0.tt hF2).tt hF3))
         rw [e, show lo + ((k + 1 : Nat) : Int) = lo + k + 1 by omega] at q
         rw [qor_0 hmf]
         exact q_locs _ [0, 1, 2, 3, 4, 5, 6, 7, 8, 9] rfl q)
      | (have e : mFt (fP A.1 deed w b told n.toNat) lo (k + 1) = qor (mFt (fP A.1 deed w b told n.toNat) lo k) (qshl 1 (lo + k)) := if_pos (by assumption)
         have q := ih (k + 1) σ3 (by omega) (hF.tt ((hF0.tt hF2).tt hF3))
         rw [e, show lo + ((k + 1 : Nat) : Int) = lo + k + 1 by omega] at q
         exact q_locs _ [0, 1, 2, 3, 4, 5, 6, 7, 8, 9] rfl q)
    · refine q_iconst (pc := 162) dX8_fits_162 ?_
      refine q_iload (pc := 163) dX8_fits_163 rfl ?_
      refine q_ishl (pc := 165) dX8_fits_165 ?_
      refine q_goto (pc := 166) (tgt := 170) dX8_fits_166 (by decide) ?_
      refine q_ior (pc := 170) dX8_fits_170 ?_
      refine q_istore (pc := 171) dX8_fits_171 (Nat.le_of_ble_eq_true rfl) ?_
      refine q_iinc (pc := 173) dX8_fits_173 rfl (Nat.le_of_ble_eq_true rfl) ?_
      refine q_goto (pc := 176) (tgt := 108) dX8_fits_176 (by decide) ?_
      first
      | (have e : mFt (fP A.1 deed w b told n.toNat) lo (k + 1) = mFt (fP A.1 deed w b told n.toNat) lo k := if_neg (by assumption)
         have q := ih (k + 1) σ3 (by omega) (hF.tt ((hF0.tt hF2).tt hF3))
         rw [e, show lo + ((k + 1 : Nat) : Int) = lo + k + 1 by omega] at q
         rw [qor_0 hmf]
         exact q_locs _ [0, 1, 2, 3, 4, 5, 6, 7, 8, 9] rfl q)
      | (have e : mFt (fP A.1 deed w b told n.toNat) lo (k + 1) = qor (mFt (fP A.1 deed w b told n.toNat) lo k) (qshl 1 (lo + k)) := if_pos (by assumption)
         have q := ih (k + 1) σ3 (by omega) (hF.tt ((hF0.tt hF2).tt hF3))
         rw [e, show lo + ((k + 1 : Nat) : Int) = lo + k + 1 by omega] at q
         exact q_locs _ [0, 1, 2, 3, 4, 5, 6, 7, 8, 9] rfl q)
theorem m_fits {b lo hi deed w r i n : Int} (hM : MR σ A) (hV : AV A) (hb : byOk b lo hi) (h1 : -2147483648 ≤ deed ∧ deed ≤ 2147483647) (h2 : -2147483648 ≤ w ∧ w ≤ 2147483647) (h3 : -2147483648 ≤ r ∧ r ≤ 2147483647) (h4 : -2147483648 ≤ i ∧ i ≤ 2147483647) (h6 : -2147483648 ≤ n ∧ n ≤ 2147483647) : qE G mX8_fits (d + 5) 0 [(0, vr 82), (1, vi deed), (2, vi w), (3, vi r), (4, vi i), (5, vi n), (6, vi b), (7, vi lo), (8, vi hi)] [] σ (ri (pM σ (s_fits A b lo hi deed w r i n))) := by
  have hbb : 0 ≤ lo ∧ lo ≤ hi ∧ hi ≤ 20 := by rcases hb with q | q | q <;> omega
  have hR := hV.1
  have h5 := hR.de
  have hS0 : ShM σ A.2.2.2.2.1.1 A.2.2.2.2.1.2.1 A.2.2.2.2.1.2.2 := hM.2.2.2.2.1
  refine q_aload_n (pc := 0) dX8_fits_0 rfl ?_
  refine q_iload_n (pc := 1) dX8_fits_1 rfl ?_
  refine q_V1i (pc := 2) dX8_fits_2 vX8_196 rfl rfl (Nat.le_of_ble_eq_true rfl) (Nat.le_of_ble_eq_true rfl) (t_X8_isDeed hM.1 h5 (by omega)) (fun r1 σ1 hc1 => ?_)
  obtain ⟨rfl, rfl⟩ := hc1
  refine q_ifeqb (pc := 5) (tgt := 38) dX8_fits_5 (by decide) (fun h5 => ?_) (fun h5 => ?_)
  · refine q_ldc (pc := 38) (n := -1000001) kX8_70 dX8_fits_38 ?_
    refine q_ri (pc := 40) dX8_fits_40 rfl ?_
    first
    | (refine ⟨A, ?_, fun _ _ => rfl, hM⟩
       unfold s_fits
       repeat' (first | rw [if_neg (by omega)] | rw [if_pos (by omega)] | rw [if_pos (by assumption)] | rw [if_neg (by assumption)])
       done)
    | (refine ⟨_, ?_, fun j hj => up_ne (by omega), hM.st⟩
       unfold s_fits
       repeat' (first | rw [if_neg (by omega)] | rw [if_pos (by omega)] | rw [if_pos (by assumption)] | rw [if_neg (by assumption)])
       first | done | rfl)
  · refine q_iload_n (pc := 8) dX8_fits_8 rfl ?_
    refine q_i2l (pc := 9) dX8_fits_9 (by omega) ?_
    refine q_lconst0 (pc := 10) dX8_fits_10 ?_
    refine q_lconst1 (pc := 11) dX8_fits_11 ?_
    refine q_S3i (pc := 12) dX8_fits_12 vX8_60 (Nat.le_of_ble_eq_true rfl) (Nat.le_of_ble_eq_true rfl) (t_X8_in (by omega) (by omega) (by omega)) (fun r2 σ2 hc2 => ?_)
    obtain ⟨rfl, rfl⟩ := hc2
    refine q_ifeqb (pc := 15) (tgt := 38) dX8_fits_15 (by decide) (fun h15 => ?_) (fun h15 => ?_)
    · refine q_ldc (pc := 38) (n := -1000001) kX8_70 dX8_fits_38 ?_
      refine q_ri (pc := 40) dX8_fits_40 rfl ?_
      first
      | (refine ⟨A, ?_, fun _ _ => rfl, hM⟩
         unfold s_fits
         repeat' (first | rw [if_neg (by omega)] | rw [if_pos (by omega)] | rw [if_pos (by assumption)] | rw [if_neg (by assumption)])
         done)
      | (refine ⟨_, ?_, fun j hj => up_ne (by omega), hM.st⟩
         unfold s_fits
         repeat' (first | rw [if_neg (by omega)] | rw [if_pos (by omega)] | rw [if_pos (by assumption)] | rw [if_neg (by assumption)])
         first | done | rfl)
    · refine q_iload_n (pc := 18) dX8_fits_18 rfl ?_
      refine q_S1i (pc := 19) dX8_fits_19 vX8_64 (Nat.le_of_ble_eq_true rfl) (Nat.le_of_ble_eq_true rfl) (t_X8_isRow (by omega)) (fun r3 σ3 hc3 => ?_)
      obtain ⟨rfl, rfl⟩ := hc3
      refine q_ifeqb (pc := 22) (tgt := 38) dX8_fits_22 (by decide) (fun h22 => ?_) (fun h22 => ?_)
      · refine q_ldc (pc := 38) (n := -1000001) kX8_70 dX8_fits_38 ?_
        refine q_ri (pc := 40) dX8_fits_40 rfl ?_
        first
        | (refine ⟨A, ?_, fun _ _ => rfl, hM⟩
           unfold s_fits
           repeat' (first | rw [if_neg (by omega)] | rw [if_pos (by omega)] | rw [if_pos (by assumption)] | rw [if_neg (by assumption)])
           done)
        | (refine ⟨_, ?_, fun j hj => up_ne (by omega), hM.st⟩
           unfold s_fits
           repeat' (first | rw [if_neg (by omega)] | rw [if_pos (by omega)] | rw [if_pos (by assumption)] | rw [if_neg (by assumption)])
           first | done | rfl)
      · refine q_iload (pc := 25) dX8_fits_25 rfl ?_
        refine q_i2l (pc := 27) dX8_fits_27 (by omega) ?_
        refine q_lconst1 (pc := 28) dX8_fits_28 ?_
        refine q_ldc2 (pc := 29) (n := 12) kX8_241 dX8_fits_29 ?_
        refine q_S3i (pc := 32) dX8_fits_32 vX8_60 (Nat.le_of_ble_eq_true rfl) (Nat.le_of_ble_eq_true rfl) (t_X8_in (by omega) (by omega) (by omega)) (fun r4 σ4 hc4 => ?_)
        obtain ⟨rfl, rfl⟩ := hc4
        refine q_ifneb (pc := 35) (tgt := 41) dX8_fits_35 (by decide) (fun h35 => ?_) (fun h35 => ?_)
        · refine q_aload_n (pc := 41) dX8_fits_41 rfl ?_
          refine q_getR (pc := 42) dX8_fits_42 fX8_7 rfl rfl ?_
          refine q_iload_n (pc := 45) dX8_fits_45 rfl ?_
          have hS := hS0 r (by omega) (by omega)
          have hs1 := hS.1
          have hs2 := hS.2.1
          have hv := hV.2.2.2.2.1 r (by omega) (by omega)
          have hv1 := hv.1
          have hv2 := hv.2.1
          refine q_iald (pc := 46) dX8_fits_46 rfl (by omega) ?_
          refine q_ifge (pc := 47) (tgt := 56) dX8_fits_47 (by decide) (by omega) (fun h47 => ?_) (fun h47 => ?_)
          · refine q_iload (pc := 56) dX8_fits_56 rfl ?_
            refine q_iflt (pc := 58) (tgt := 79) dX8_fits_58 (by decide) (by omega) (fun h58 => ?_) (fun h58 => ?_)
            · refine q_aload_n (pc := 79) dX8_fits_79 rfl ?_
              refine q_iconst (pc := 80) dX8_fits_80 ?_
              refine q_V1i (pc := 81) dX8_fits_81 vX8_71 rfl rfl (Nat.le_of_ble_eq_true rfl) (Nat.le_of_ble_eq_true rfl) (t_X8_finding) (fun r5 σ5 hc5 => ?_)
              obtain ⟨rfl, rfl⟩ := hc5
              refine q_ri (pc := 84) dX8_fits_84 rfl ?_
              first
              | (refine ⟨A, ?_, fun _ _ => rfl, hM⟩
                 unfold s_fits
                 repeat' (first | rw [if_neg (by omega)] | rw [if_pos (by omega)] | rw [if_pos (by assumption)] | rw [if_neg (by assumption)])
                 done)
              | (refine ⟨_, ?_, fun j hj => up_ne (by omega), hM.st⟩
                 unfold s_fits
                 repeat' (first | rw [if_neg (by omega)] | rw [if_pos (by omega)] | rw [if_pos (by assumption)] | rw [if_neg (by assumption)])
                 first | done | rfl)
            · refine q_iload (pc := 61) dX8_fits_61 rfl ?_
              refine q_i2l (pc := 63) dX8_fits_63 (by omega) ?_
              refine q_iload (pc := 64) dX8_fits_64 rfl ?_
              refine q_i2l (pc := 66) dX8_fits_66 (by omega) ?_
              refine q_ladd (pc := 67) dX8_fits_67 ?_
              refine q_aload_n (pc := 68) dX8_fits_68 rfl ?_
              refine q_getR (pc := 69) dX8_fits_69 fX8_13 rfl rfl ?_
              refine q_iload_n (pc := 72) dX8_fits_72 rfl ?_
              refine q_iald (pc := 73) dX8_fits_73 rfl (by omega) ?_
              refine q_i2l (pc := 74) dX8_fits_74 (by omega) ?_
              have hc1 := qcmp_in (i + n) (σ 84 r)
              have hc2 := @qcmp_gt (i + n) (σ 84 r)
              refine q_lcmp (pc := 75) dX8_fits_75 (by omega) (by omega) ?_
              refine q_ifle (pc := 76) (tgt := 85) dX8_fits_76 (by decide) (by omega) (fun h76 => ?_) (fun h76 => ?_)
              · refine q_aload_n (pc := 85) dX8_fits_85 rfl ?_
                refine q_iload_n (pc := 86) dX8_fits_86 rfl ?_
                refine q_V1i (pc := 87) dX8_fits_87 vX8_199 rfl rfl (Nat.le_of_ble_eq_true rfl) (Nat.le_of_ble_eq_true rfl) (t_X8_isDone hM.1) (fun r6 σ6 hc6 => ?_)
                obtain ⟨rfl, rfl⟩ := hc6
                refine q_ifeqb (pc := 90) (tgt := 96) dX8_fits_90 (by decide) (fun h90 => ?_) (fun h90 => ?_)
                · refine q_aload_n (pc := 96) dX8_fits_96 rfl ?_
                  refine q_iconst (pc := 97) dX8_fits_97 ?_
                  refine q_pI (pc := 98) 1 dX8_fits_98 wX8_54 rfl rfl rfl ?_
                  refine q_iconst (pc := 101) dX8_fits_101 ?_
                  refine q_istore (pc := 102) dX8_fits_102 (Nat.le_of_ble_eq_true rfl) ?_
                  refine q_iload (pc := 104) dX8_fits_104 rfl ?_
                  refine q_istore (pc := 106) dX8_fits_106 (Nat.le_of_ble_eq_true rfl) ?_
                  have q := m_fits_l (G := G) (d := d) (b := b) (lo := lo) (hi := hi) (deed := deed) (w := w) (r := r) (i := i) (n := n) (hM.st (s := 0)) hV hb (by omega) (by omega) (by omega) (by omega) (by omega) rfl (hi + 1 - lo).toNat 0 _ (by omega) Fr.rf
                  rw [show lo + ((0 : Nat) : Int) = lo by omega] at q
                  refine q_locs _ [0, 1, 2, 3, 4, 5, 6, 7, 8, 10] rfl (q_mono (fun v σ' h => ?_) q)
                  obtain ⟨x, e1, e2, e3⟩ := h
                  refine ⟨x, e1, ?_⟩
                  have e : s_fits A b lo hi deed w r i n = (x, aS A 0) := by
                    unfold s_fits
                    rw [if_pos (by omega), if_neg (by omega), if_pos (by omega), if_neg (by assumption), e2]
                  rw [e]
                  exact ⟨_, rfl, fun j hj => by rw [e3.m (by decide) j hj, up_ne (by omega)], (hM.st (s := 0)).fr e3 (scr_im (by decide))⟩
                · refine q_ldc (pc := 93) (n := -1000002) kX8_187 dX8_fits_93 ?_
                  refine q_ri (pc := 95) dX8_fits_95 rfl ?_
                  first
                  | (refine ⟨A, ?_, fun _ _ => rfl, hM⟩
                     unfold s_fits
                     repeat' (first | rw [if_neg (by omega)] | rw [if_pos (by omega)] | rw [if_pos (by assumption)] | rw [if_neg (by assumption)])
                     done)
                  | (refine ⟨_, ?_, fun j hj => up_ne (by omega), hM.st⟩
                     unfold s_fits
                     repeat' (first | rw [if_neg (by omega)] | rw [if_pos (by omega)] | rw [if_pos (by assumption)] | rw [if_neg (by assumption)])
                     first | done | rfl)
              · refine q_aload_n (pc := 79) dX8_fits_79 rfl ?_
                refine q_iconst (pc := 80) dX8_fits_80 ?_
                refine q_V1i (pc := 81) dX8_fits_81 vX8_71 rfl rfl (Nat.le_of_ble_eq_true rfl) (Nat.le_of_ble_eq_true rfl) (t_X8_finding) (fun r7 σ7 hc7 => ?_)
                obtain ⟨rfl, rfl⟩ := hc7
                refine q_ri (pc := 84) dX8_fits_84 rfl ?_
                first
                | (refine ⟨A, ?_, fun _ _ => rfl, hM⟩
                   unfold s_fits
                   repeat' (first | rw [if_neg (by omega)] | rw [if_pos (by omega)] | rw [if_pos (by assumption)] | rw [if_neg (by assumption)])
                   done)
                | (refine ⟨_, ?_, fun j hj => up_ne (by omega), hM.st⟩
                   unfold s_fits
                   repeat' (first | rw [if_neg (by omega)] | rw [if_pos (by omega)] | rw [if_pos (by assumption)] | rw [if_neg (by assumption)])
                   first | done | rfl)
          · refine q_aload_n (pc := 50) dX8_fits_50 rfl ?_
            refine q_iconst (pc := 51) dX8_fits_51 ?_
            refine q_V1i (pc := 52) dX8_fits_52 vX8_71 rfl rfl (Nat.le_of_ble_eq_true rfl) (Nat.le_of_ble_eq_true rfl) (t_X8_finding) (fun r8 σ8 hc8 => ?_)
            obtain ⟨rfl, rfl⟩ := hc8
            refine q_ri (pc := 55) dX8_fits_55 rfl ?_
            first
            | (refine ⟨A, ?_, fun _ _ => rfl, hM⟩
               unfold s_fits
               repeat' (first | rw [if_neg (by omega)] | rw [if_pos (by omega)] | rw [if_pos (by assumption)] | rw [if_neg (by assumption)])
               done)
            | (refine ⟨_, ?_, fun j hj => up_ne (by omega), hM.st⟩
               unfold s_fits
               repeat' (first | rw [if_neg (by omega)] | rw [if_pos (by omega)] | rw [if_pos (by assumption)] | rw [if_neg (by assumption)])
               first | done | rfl)
        · refine q_ldc (pc := 38) (n := -1000001) kX8_70 dX8_fits_38 ?_
          refine q_ri (pc := 40) dX8_fits_40 rfl ?_
          first
          | (refine ⟨A, ?_, fun _ _ => rfl, hM⟩
             unfold s_fits
             repeat' (first | rw [if_neg (by omega)] | rw [if_pos (by omega)] | rw [if_pos (by assumption)] | rw [if_neg (by assumption)])
             done)
          | (refine ⟨_, ?_, fun j hj => up_ne (by omega), hM.st⟩
             unfold s_fits
             repeat' (first | rw [if_neg (by omega)] | rw [if_pos (by omega)] | rw [if_pos (by assumption)] | rw [if_neg (by assumption)])
             first | done | rfl)
theorem m_who {deed w r i n : Int} (hM : MR σ A) (hV : AV A) (h1 : -2147483648 ≤ deed ∧ deed ≤ 2147483647) (h2 : -2147483648 ≤ w ∧ w ≤ 2147483647) (h3 : -2147483648 ≤ r ∧ r ≤ 2147483647) (h4 : -2147483648 ≤ i ∧ i ≤ 2147483647) (h6 : -2147483648 ≤ n ∧ n ≤ 2147483647) : qE G mX8_who (d + 6) 0 [(0, vr 82), (1, vi deed), (2, vi w), (3, vi r), (4, vi i), (5, vi n)] [] σ (ri (pM σ (s_fits A 0 1 5 deed w r i n))) := by
  refine q_aload_n (pc := 0) dX8_who_0 rfl ?_
  refine q_iconst (pc := 1) dX8_who_1 ?_
  refine q_pI (pc := 2) 0 dX8_who_2 wX8_50 rfl rfl rfl ?_
  have hM := hM.fld (i := 0) (v := 0) (by decide)
  have hF0 : ∀ j, j < 82 → up σ 82 0 0 j = σ j := fun j hj => up_ne (by omega)
  generalize up σ 82 0 0 = τ at hM hF0 ⊢
  refine q_aload_n (pc := 5) dX8_who_5 rfl ?_
  refine q_iload_n (pc := 6) dX8_who_6 rfl ?_
  refine q_iload_n (pc := 7) dX8_who_7 rfl ?_
  refine q_iload_n (pc := 8) dX8_who_8 rfl ?_
  refine q_iload (pc := 9) dX8_who_9 rfl ?_
  refine q_iload (pc := 11) dX8_who_11 rfl ?_
  refine q_iconst (pc := 13) dX8_who_13 ?_
  refine q_iconst (pc := 14) dX8_who_14 ?_
  refine q_iconst (pc := 15) dX8_who_15 ?_
  refine q_V8i (pc := 16) dX8_who_16 vX8_247 rfl rfl (Nat.le_of_ble_eq_true rfl) (Nat.le_of_ble_eq_true rfl) (m_fits (b := 0) (lo := 1) (hi := 5) hM hV (Or.inl ⟨rfl, rfl, rfl⟩) h1 h2 h3 h4 h6) (fun r1 σ1 hc1 => ?_)
  refine q_ri (pc := 19) dX8_who_19 rfl ?_
  obtain ⟨A', z1, z2, z3⟩ := hc1
  exact ⟨A', z1, fun j hj => by rw [z2 j hj, hF0 j hj], z3⟩
theorem m_feet {deed w r i n : Int} (hM : MR σ A) (hV : AV A) (h1 : -2147483648 ≤ deed ∧ deed ≤ 2147483647) (h2 : -2147483648 ≤ w ∧ w ≤ 2147483647) (h3 : -2147483648 ≤ r ∧ r ≤ 2147483647) (h4 : -2147483648 ≤ i ∧ i ≤ 2147483647) (h6 : -2147483648 ≤ n ∧ n ≤ 2147483647) : qE G mX8_feet (d + 6) 0 [(0, vr 82), (1, vi deed), (2, vi w), (3, vi r), (4, vi i), (5, vi n)] [] σ (ri (pM σ (s_fits A 1 0 2 deed w r i n))) := by
  refine q_aload_n (pc := 0) dX8_feet_0 rfl ?_
  refine q_iconst (pc := 1) dX8_feet_1 ?_
  refine q_pI (pc := 2) 0 dX8_feet_2 wX8_50 rfl rfl rfl ?_
  have hM := hM.fld (i := 0) (v := 0) (by decide)
  have hF0 : ∀ j, j < 82 → up σ 82 0 0 j = σ j := fun j hj => up_ne (by omega)
  generalize up σ 82 0 0 = τ at hM hF0 ⊢
  refine q_aload_n (pc := 5) dX8_feet_5 rfl ?_
  refine q_iload_n (pc := 6) dX8_feet_6 rfl ?_
  refine q_iload_n (pc := 7) dX8_feet_7 rfl ?_
  refine q_iload_n (pc := 8) dX8_feet_8 rfl ?_
  refine q_iload (pc := 9) dX8_feet_9 rfl ?_
  refine q_iload (pc := 11) dX8_feet_11 rfl ?_
  refine q_iconst (pc := 13) dX8_feet_13 ?_
  refine q_iconst (pc := 14) dX8_feet_14 ?_
  refine q_iconst (pc := 15) dX8_feet_15 ?_
  refine q_V8i (pc := 16) dX8_feet_16 vX8_247 rfl rfl (Nat.le_of_ble_eq_true rfl) (Nat.le_of_ble_eq_true rfl) (m_fits (b := 1) (lo := 0) (hi := 2) hM hV (Or.inr (Or.inl ⟨rfl, rfl, rfl⟩)) h1 h2 h3 h4 h6) (fun r1 σ1 hc1 => ?_)
  refine q_ri (pc := 19) dX8_feet_19 rfl ?_
  obtain ⟨A', z1, z2, z3⟩ := hc1
  exact ⟨A', z1, fun j hj => by rw [z2 j hj, hF0 j hj], z3⟩
theorem m_amounts {deed w r i n : Int} (hM : MR σ A) (hV : AV A) (h1 : -2147483648 ≤ deed ∧ deed ≤ 2147483647) (h2 : -2147483648 ≤ w ∧ w ≤ 2147483647) (h3 : -2147483648 ≤ r ∧ r ≤ 2147483647) (h4 : -2147483648 ≤ i ∧ i ≤ 2147483647) (h6 : -2147483648 ≤ n ∧ n ≤ 2147483647) : qE G mX8_amounts (d + 6) 0 [(0, vr 82), (1, vi deed), (2, vi w), (3, vi r), (4, vi i), (5, vi n)] [] σ (ri (pM σ (s_fits A 2 1 20 deed w r i n))) := by
  refine q_aload_n (pc := 0) dX8_amounts_0 rfl ?_
  refine q_iconst (pc := 1) dX8_amounts_1 ?_
  refine q_pI (pc := 2) 0 dX8_amounts_2 wX8_50 rfl rfl rfl ?_
  have hM := hM.fld (i := 0) (v := 0) (by decide)
  have hF0 : ∀ j, j < 82 → up σ 82 0 0 j = σ j := fun j hj => up_ne (by omega)
  generalize up σ 82 0 0 = τ at hM hF0 ⊢
  refine q_aload_n (pc := 5) dX8_amounts_5 rfl ?_
  refine q_iload_n (pc := 6) dX8_amounts_6 rfl ?_
  refine q_iload_n (pc := 7) dX8_amounts_7 rfl ?_
  refine q_iload_n (pc := 8) dX8_amounts_8 rfl ?_
  refine q_iload (pc := 9) dX8_amounts_9 rfl ?_
  refine q_iload (pc := 11) dX8_amounts_11 rfl ?_
  refine q_iconst (pc := 13) dX8_amounts_13 ?_
  refine q_iconst (pc := 14) dX8_amounts_14 ?_
  refine q_bipush (pc := 15) dX8_amounts_15 (by decide +kernel) ?_
  refine q_V8i (pc := 17) dX8_amounts_17 vX8_247 rfl rfl (Nat.le_of_ble_eq_true rfl) (Nat.le_of_ble_eq_true rfl) (m_fits (b := 2) (lo := 1) (hi := 20) hM hV (Or.inr (Or.inr ⟨rfl, rfl, rfl⟩)) h1 h2 h3 h4 h6) (fun r1 σ1 hc1 => ?_)
  refine q_ri (pc := 20) dX8_amounts_20 rfl ?_
  obtain ⟨A', z1, z2, z3⟩ := hc1
  exact ⟨A', z1, fun j hj => by rw [z2 j hj, hF0 j hj], z3⟩
end T8
