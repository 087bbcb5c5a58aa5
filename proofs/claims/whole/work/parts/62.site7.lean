/-! ===== the reference: site, to its end ===== -/
section T8
variable {G : qGl} {d : Nat} {σ : qM} {tp : Int → Int} {tl : Int} {s : Int × Int} {g : Int → Int} {A : qA}
theorem row_ex {P : Prop} (h : P → RwR σ 87 g) : ∃ g', RwR σ 87 g' ∧ (P → g' = g) := by
  by_cases c : P
  · exact ⟨g, h c, fun _ => rfl⟩
  · exact ⟨σ 87, fun j _ _ => rfl, fun q => absurd q c⟩
theorem m_foot1 {i : Int} {Q : Option qV → qM → Prop} (hi : 0 ≤ i ∧ i ≤ 2) (hK : TK tp tl) (hS : MS σ tp tl s) (hI : sIn tl s) (hg : s.1 = 0 → RwR σ 87 g) (kk : ∀ σ1, MS σ1 tp tl (ftS tp tl s) → F7 σ σ1 → ((ftS tp tl s).1 = 0 → RwR σ1 87 (ftR tp tl i s g)) → qE G mX8_site (d + 6) 106 [(1, vi (i + 1)), (0, vr 82)] [] σ1 Q) : qE G mX8_site (d + 6) 106 [(1, vi i), (0, vr 82)] [] σ Q := by
  obtain ⟨f0, hf0, e0⟩ := row_ex hg
  refine q_iload_n (pc := 106) dX8_site_106 rfl ?_
  refine q_iconst (pc := 107) dX8_site_107 ?_
  refine q_icmpge (pc := 108) (tgt := 122) dX8_site_108 (by decide) (by omega) (by omega) (fun h => absurd h (by omega)) (fun h108 => ?_)
  refine q_aload_n (pc := 111) dX8_site_111 rfl ?_
  refine q_iload_n (pc := 112) dX8_site_112 rfl ?_
  refine q_V1v (pc := 113) dX8_site_113 vX8_138 rfl rfl (Nat.le_of_ble_eq_true rfl) (Nat.le_of_ble_eq_true rfl) (m_readFoot hK hS hI (by omega) hf0) (fun σ1 hc1 => ?_)
  obtain ⟨hS1, hF1, hr1⟩ := hc1
  refine q_iinc (pc := 116) dX8_site_116 rfl (Nat.le_of_ble_eq_true rfl) ?_
  refine q_goto (pc := 119) (tgt := 106) dX8_site_119 (by decide) ?_
  have q := kk _ hS1 hF1 (fun z => by have q := hr1 z; rw [e0 (ftS_0 z).1] at q; exact q)
  exact q_locs _ [0, 1] rfl q
theorem m_footAll {x : Int} {Q : Option qV → qM → Prop} (hK : TK tp tl) (hS : MS σ tp tl (laS tp tl)) (hg : (laS tp tl).1 = 0 → RwR σ 87 (laR tp tl g00)) (kk : ∀ σ1 x, MS σ1 tp tl (ftS tp tl (ftS tp tl (ftS tp tl (laS tp tl)))) → F7 σ σ1 → ((ftS tp tl (ftS tp tl (ftS tp tl (laS tp tl)))).1 = 0 → RwR σ1 87 (rw0 tp tl)) → qE G mX8_site (d + 6) 122 [(1, vi x), (0, vr 82)] [] σ1 Q) : qE G mX8_site (d + 6) 104 [(1, vi x), (0, vr 82)] [] σ Q := by
  have i0 : sIn tl (laS tp tl) := ntS_in (ntS_in (ntS_in (tkS_in (s00 hK))))
  have i1 := ftS_in (tp := tp) i0
  have i2 := ftS_in (tp := tp) i1
  refine q_iconst (pc := 104) dX8_site_104 ?_
  refine q_istore_n (pc := 105) dX8_site_105 (Nat.le_of_ble_eq_true rfl) ?_
  refine m_foot1 (i := 0) (by omega) hK hS i0 hg (fun σ1 hS1 hF1 hg1 => ?_)
  refine m_foot1 (i := 0 + 1) (by omega) hK hS1 i1 hg1 (fun σ2 hS2 hF2 hg2 => ?_)
  refine m_foot1 (i := 0 + 1 + 1) (by omega) hK hS2 i2 hg2 (fun σ3 hS3 hF3 hg3 => ?_)
  refine q_iload_n (pc := 106) dX8_site_106 rfl ?_
  refine q_iconst (pc := 107) dX8_site_107 ?_
  refine q_icmpge (pc := 108) (tgt := 122) dX8_site_108 (by decide) (by omega) (by omega) (fun h108 => ?_) (fun h => absurd h (by omega))
  exact kk _ _ hS3 ((hF1.tt hF2).tt hF3) hg3
/-- before the first deed -/
def lkS (tp : Int → Int) (tl : Int) (s : Int × Int) : Int × Int := if s.1 = 0 ∧ ¬ (s.2 < tl ∧ kb (tp s.2) ≠ 0) then ((if s.2 < tl ∧ tp s.2 = 119 then 3 else 1), s.2) else s
theorem lkS_ds (h5 : g 5 = 0) : dsL tp tl 9 (lkS tp tl s, g) = dsL tp tl 9 (s, g) := by
  unfold lkS
  by_cases c : s.1 = 0 ∧ ¬ (s.2 < tl ∧ kb (tp s.2) ≠ 0)
  · rw [if_pos c, dsL_s (z := (s, g)) c.1 (fun q => by have : 0 < g 5 := q.2; omega) 8, dsL_f (by show (if _ then (3 : Int) else 1) ≠ 0; split <;> omega)]
    have e : dS1 tp tl (s, g) = (((if s.2 < tl ∧ tp s.2 = 119 then 3 else 1), s.2), g) := by
      unfold dS1
      rw [if_neg (show ¬ ((s, g).1.2 < tl ∧ kb (tp (s, g).1.2) ≠ 0) from c.2)]
      by_cases w : s.2 < tl ∧ tp s.2 = 119
      · rw [if_pos w, if_pos (show (s, g).1.2 < tl ∧ tp (s, g).1.2 = 119 ∧ (s, g).2 5 = 0 from ⟨w.1, w.2, h5⟩)]
      · rw [if_neg w, if_neg (show ¬ ((s, g).1.2 < tl ∧ tp (s, g).1.2 = 119 ∧ (s, g).2 5 = 0) from fun q => w ⟨q.1, q.2.1⟩)]
    rw [e, dsL_f (by show (if _ then (3 : Int) else 1) ≠ 0; split <;> omega)]
  · rw [if_neg c]
theorem lkS_in (h : sIn tl s) : sIn tl (lkS tp tl s) := by
  unfold lkS
  split
  · exact ⟨by show 0 ≤ (if _ then (3 : Int) else 1) ∧ (if _ then (3 : Int) else 1) ≤ 3; split <;> omega, h.2⟩
  · exact h
theorem lkS_0 (h : (lkS tp tl s).1 = 0) : lkS tp tl s = s ∧ s.2 < tl ∧ kb (tp s.2) ≠ 0 := by
  unfold lkS at h ⊢
  by_cases c : s.1 = 0 ∧ ¬ (s.2 < tl ∧ kb (tp s.2) ≠ 0)
  · rw [if_pos c] at h
    exact absurd h (by show (if _ then (3 : Int) else 1) ≠ 0; split <;> omega)
  · rw [if_neg c] at h ⊢
    exact ⟨rfl, Classical.byContradiction fun q => c ⟨h, q⟩⟩
theorem m_look {x : Int} {Q : Option qV → qM → Prop} (hK : TK tp tl) (hS : MS σ tp tl s) (hI : sIn tl s) (kk : ∀ σ1, MS σ1 tp tl (lkS tp tl s) → F6 σ σ1 → qE G mX8_site (d + 6) 148 [(1, vi x), (0, vr 82)] [] σ1 Q) : qE G mX8_site (d + 6) 122 [(1, vi x), (0, vr 82)] [] σ Q := by
  by_cases w : s.1 = 0 ∧ s.2 < tl ∧ tp s.2 = 119
  · have hI3 := bdS_in (v := 3) hI (by omega)
    have e3 : bdS 3 s = (3, s.2) := by unfold bdS; rw [if_pos w.1]
    have e : lkS tp tl s = bdS 1 (bdS 3 s) := by
      rw [e3]
      unfold lkS bdS
      rw [if_pos ⟨w.1, fun q => q.2 (by rw [w.2.2]; decide)⟩, if_pos w.2, if_neg (by simp)]
    have nn : ¬ ((bdS 3 s).1 = 0 ∧ (bdS 3 s).2 < tl ∧ kb (tp (bdS 3 s).2) ≠ 0) := fun q => by rw [e3] at q; exact absurd q.1 (by simp)
    rw [e] at kk
    refine q_aload_n (pc := 122) dX8_site_122 rfl ?_
    refine q_bipush (pc := 123) dX8_site_123 (by decide +kernel) ?_
    refine q_V1i (pc := 125) dX8_site_125 vX8_125 rfl rfl (Nat.le_of_ble_eq_true rfl) (Nat.le_of_ble_eq_true rfl) (m_isLetter hK hS hI (by omega)) (fun r1 σ1 hc1 => ?_)
    obtain ⟨rfl, rfl⟩ := hc1
    refine q_ifeqb (pc := 128) (tgt := 136) dX8_site_128 (by decide) (fun h => absurd h (by first | omega | simp_all)) (fun h128 => ?_)
    refine q_aload_n (pc := 131) dX8_site_131 rfl ?_
    refine q_iconst (pc := 132) dX8_site_132 ?_
    refine q_V1v (pc := 133) dX8_site_133 vX8_108 rfl rfl (Nat.le_of_ble_eq_true rfl) (Nat.le_of_ble_eq_true rfl) (m_bad hS hI (by omega)) (fun σ2 hc2 => ?_)
    obtain ⟨hS2, hF2⟩ := hc2
    refine q_aload_n (pc := 136) dX8_site_136 rfl ?_
    refine q_V0i (pc := 137) dX8_site_137 vX8_141 rfl rfl (Nat.le_of_ble_eq_true rfl) (Nat.le_of_ble_eq_true rfl) (m_isSort hK hS2 hI3) (fun r3 σ3 hc3 => ?_)
    obtain ⟨rfl, rfl⟩ := hc3
    refine q_ifneb (pc := 140) (tgt := 148) dX8_site_140 (by decide) (fun h => absurd h (by first | omega | simp_all)) (fun h140 => ?_)
    refine q_aload_n (pc := 143) dX8_site_143 rfl ?_
    refine q_iconst (pc := 144) dX8_site_144 ?_
    refine q_V1v (pc := 145) dX8_site_145 vX8_108 rfl rfl (Nat.le_of_ble_eq_true rfl) (Nat.le_of_ble_eq_true rfl) (m_bad hS2 hI3 (by omega)) (fun σ4 hc4 => ?_)
    obtain ⟨hS4, hF4⟩ := hc4
    exact kk _ hS4 (hF2.tt hF4)
  · by_cases y : s.1 = 0 ∧ s.2 < tl ∧ kb (tp s.2) ≠ 0
    · have e : lkS tp tl s = s := if_neg (fun q => q.2 y.2)
      rw [e] at kk
      refine q_aload_n (pc := 122) dX8_site_122 rfl ?_
      refine q_bipush (pc := 123) dX8_site_123 (by decide +kernel) ?_
      refine q_V1i (pc := 125) dX8_site_125 vX8_125 rfl rfl (Nat.le_of_ble_eq_true rfl) (Nat.le_of_ble_eq_true rfl) (m_isLetter hK hS hI (by omega)) (fun r1 σ1 hc1 => ?_)
      obtain ⟨rfl, rfl⟩ := hc1
      refine q_ifeqb (pc := 128) (tgt := 136) dX8_site_128 (by decide) (fun h128 => ?_) (fun h => absurd h (by first | omega | simp_all))
      refine q_aload_n (pc := 136) dX8_site_136 rfl ?_
      refine q_V0i (pc := 137) dX8_site_137 vX8_141 rfl rfl (Nat.le_of_ble_eq_true rfl) (Nat.le_of_ble_eq_true rfl) (m_isSort hK hS hI) (fun r2 σ2 hc2 => ?_)
      obtain ⟨rfl, rfl⟩ := hc2
      refine q_ifneb (pc := 140) (tgt := 148) dX8_site_140 (by decide) (fun h140 => ?_) (fun h => absurd h (by first | omega | simp_all))
      exact kk _ hS F6.rf
    · have e : lkS tp tl s = bdS 1 s := by
        unfold lkS bdS
        by_cases z : s.1 = 0
        · rw [if_pos ⟨z, fun q => y ⟨z, q⟩⟩, if_pos z, if_neg (fun q => w ⟨z, q⟩)]
        · rw [if_neg (fun q => z q.1), if_neg z]
      rw [e] at kk
      refine q_aload_n (pc := 122) dX8_site_122 rfl ?_
      refine q_bipush (pc := 123) dX8_site_123 (by decide +kernel) ?_
      refine q_V1i (pc := 125) dX8_site_125 vX8_125 rfl rfl (Nat.le_of_ble_eq_true rfl) (Nat.le_of_ble_eq_true rfl) (m_isLetter hK hS hI (by omega)) (fun r1 σ1 hc1 => ?_)
      obtain ⟨rfl, rfl⟩ := hc1
      refine q_ifeqb (pc := 128) (tgt := 136) dX8_site_128 (by decide) (fun h128 => ?_) (fun h => absurd h (by first | omega | simp_all))
      refine q_aload_n (pc := 136) dX8_site_136 rfl ?_
      refine q_V0i (pc := 137) dX8_site_137 vX8_141 rfl rfl (Nat.le_of_ble_eq_true rfl) (Nat.le_of_ble_eq_true rfl) (m_isSort hK hS hI) (fun r2 σ2 hc2 => ?_)
      obtain ⟨rfl, rfl⟩ := hc2
      refine q_ifneb (pc := 140) (tgt := 148) dX8_site_140 (by decide) (fun h => absurd h (by first | omega | simp_all)) (fun h140 => ?_)
      refine q_aload_n (pc := 143) dX8_site_143 rfl ?_
      refine q_iconst (pc := 144) dX8_site_144 ?_
      refine q_V1v (pc := 145) dX8_site_145 vX8_108 rfl rfl (Nat.le_of_ble_eq_true rfl) (Nat.le_of_ble_eq_true rfl) (m_bad hS hI (by omega)) (fun σ3 hc3 => ?_)
      obtain ⟨hS3, hF3⟩ := hc3
      exact kk _ hS3 hF3
theorem MR.f7 {σ1 : qM} (h : MR σ A) (hF : F7 σ σ1) : MR σ1 A := by
  have e : ∀ j : Nat, j ≠ 82 → j ≠ 87 → σ1 j = σ j := fun j a b => hF.1 j (by simp; omega)
  obtain ⟨h1, h2, h3, h4, h5, h6, h7, h8⟩ := h
  unfold MR RwR AcM ShM
  rw [e 83 (by omega) (by omega), e 84 (by omega) (by omega), e 85 (by omega) (by omega), e 86 (by omega) (by omega), e 89 (by omega) (by omega), e 90 (by omega) (by omega), e 93 (by omega) (by omega), e 94 (by omega) (by omega), e 95 (by omega) (by omega), hF.2 1 (by omega), hF.2 9 (by omega), hF.2 11 (by omega), hF.2 18 (by omega), hF.2 24 (by omega)]
  exact ⟨h1, h2, h3, h4, h5, h6, h7, h8⟩
theorem MR.fe {σ1 : qM} (h : MR σ A) (hF : FE σ σ1 s) : MR σ1 (A.1, A.2.1, A.2.2.1, (if s.1 = 0 then A.2.2.2.1 else s.1), A.2.2.2.2.1, (A.2.2.2.2.2.1.1, 0), A.2.2.2.2.2.2) := by
  have e : ∀ j : Nat, j ≠ 82 → σ1 j = σ j := fun j a => hF.1 j (by simp; omega)
  obtain ⟨h1, h2, h3, h4, h5, h6, h7, h8⟩ := h
  obtain ⟨f1, f2, f3, f4, f5⟩ := hF
  unfold MR RwR AcM ShM
  rw [e 83 (by omega), e 84 (by omega), e 85 (by omega), e 86 (by omega), e 89 (by omega), e 90 (by omega), e 93 (by omega), e 94 (by omega), e 95 (by omega), f5 1 (by omega), f5 9 (by omega), f2, f3, f5 24 (by omega)]
  rw [h4]
  exact ⟨h1, h2, h3, rfl, h5, ⟨rfl, fun j a b => by have b : j < 0 := b; omega⟩, h7, h8⟩
theorem m_site_e {x : Int} {σ0 : qM} (h0 : ∀ j, j < 82 → σ j = σ0 j) (hM : MR σ A) (hV : AV A) (hS : MS σ A.2.2.2.2.2.1.1 A.2.2.2.2.2.1.2 s) (hI : sIn A.2.2.2.2.2.1.2 s) (he : enS A.2.2.2.2.2.1.2 s = (paS A.2.2.2.2.2.1.1 A.2.2.2.2.2.1.2).1) (hg : s.1 = 0 → RwR σ 87 (paS A.2.2.2.2.2.1.1 A.2.2.2.2.2.1.2).2) : qE G mX8_site (d + 6) 162 [(1, vi x), (0, vr 82)] [] σ (ri (pM σ0 (s_site A))) := by
  have hIn : sIn A.2.2.2.2.2.1.2 (enS A.2.2.2.2.2.1.2 s) := by
    unfold enS
    split
    · exact ⟨by show (0 : Int) ≤ 1 ∧ (1 : Int) ≤ 3; omega, hI.2⟩
    · exact hI
  have h12 := hV.2.2.2.2.2.1.1.2
  generalize hP : paS A.2.2.2.2.2.1.1 A.2.2.2.2.2.1.2 = P at he hg
  by_cases z : P.1.1 = 0
  · have hs : s_site A = (P.2 5, P.2, [], A.2.2.1, A.2.2.2.1, A.2.2.2.2.1, (A.2.2.2.2.2.1.1, 0), A.2.2.2.2.2.2) := by
      unfold s_site
      rw [hP, if_pos z]
    have zs : s.1 = 0 := by
      by_cases c : s.1 = 0
      · exact c
      · have q : enS A.2.2.2.2.2.1.2 s = s := if_neg (fun q => c q.1)
        rw [q] at he
        rw [he]; exact z
    have zn : ¬ ((enS A.2.2.2.2.2.1.2 s).1 ≠ 0) := fun q => q (by rw [he]; exact z)
    rw [hs]
    refine q_aload_n (pc := 162) dX8_site_162 rfl ?_
    refine q_V0i (pc := 163) dX8_site_163 vX8_148 rfl rfl (Nat.le_of_ble_eq_true rfl) (Nat.le_of_ble_eq_true rfl) (m_failed hS hI) (fun r1 σ1 hc1 => ?_)
    obtain ⟨rfl, hF1⟩ := hc1
    refine q_ifeqb (pc := 166) (tgt := 177) dX8_site_166 (by decide) (fun h166 => ?_) (fun h => absurd h (by first | omega | simp_all))
    refine q_aload_n (pc := 177) dX8_site_177 rfl ?_
    refine q_iconst (pc := 178) dX8_site_178 ?_
    refine q_pI (pc := 179) 9 dX8_site_179 wX8_152 rfl rfl rfl ?_
    refine q_iconst (pc := 182) dX8_site_182 ?_
    refine q_istore_n (pc := 183) dX8_site_183 (Nat.le_of_ble_eq_true rfl) ?_
    have hr : RwR (up σ1 82 9 0) 87 P.2 := (hg zs).fr (S := [82]) ((hF1.1).tt (Fr.up (by simp))) (by simp)
    refine m_back_l hr (fun σ2 x hF2 h2 => ?_) 34 0 (up σ1 82 9 0) rfl Fr.rf (fun j a b => by omega)
    have hM1 := hM.fe hF1
    rw [if_pos (show (enS A.2.2.2.2.2.1.2 s).1 = 0 by rw [he]; exact z)] at hM1
    have hM2 := MR.acts (A := (A.1, A.2.1, A.2.2.1, A.2.2.2.1, A.2.2.2.2.1, (A.2.2.2.2.2.1.1, 0), A.2.2.2.2.2.2)) hM1 (σ1 := up σ1 82 9 0) (as := []) (Fr.up (by simp)) (fun i hi => by rw [up_same, if_neg hi]) ⟨by rw [up_same, if_pos rfl]; rfl, fun i f hi => absurd hi (by simp)⟩
    have hM3 := hM2.row hF2 (by decide) h2
    refine q_aload_n (pc := 208) dX8_site_208 rfl ?_
    refine q_getR (pc := 209) dX8_site_209 fX8_19 rfl rfl ?_
    refine q_iconst (pc := 212) dX8_site_212 ?_
    refine q_iald (pc := 213) dX8_site_213 rfl (by omega) ?_
    refine q_ri (pc := 214) dX8_site_214 rfl ?_
    refine pM.go (fun j hj => ?_) hM3 (h2 5 (by omega) (by omega)).symm
    rw [hF2.m (by decide) j hj, up_ne (by omega), hF1.1.m (by decide) j hj, h0 j hj]
  · have hs : s_site A = (-1000100 - P.1.2, A.1, A.2.1, A.2.2.1, P.1.1, A.2.2.2.2.1, (A.2.2.2.2.2.1.1, 0), A.2.2.2.2.2.2) := by
      unfold s_site
      rw [hP, if_neg z]
    have zn : (enS A.2.2.2.2.2.1.2 s).1 ≠ 0 := fun q => z (by rw [he] at q; exact q)
    rw [hs]
    refine q_aload_n (pc := 162) dX8_site_162 rfl ?_
    refine q_V0i (pc := 163) dX8_site_163 vX8_148 rfl rfl (Nat.le_of_ble_eq_true rfl) (Nat.le_of_ble_eq_true rfl) (m_failed hS hI) (fun r1 σ1 hc1 => ?_)
    obtain ⟨rfl, hF1⟩ := hc1
    refine q_ifeqb (pc := 166) (tgt := 177) dX8_site_166 (by decide) (fun h => absurd h (by first | omega | simp_all)) (fun h166 => ?_)
    have hM1 := hM.fe hF1
    have h17 := hF1.2.2.2.1 zn
    rw [if_neg zn, he] at hM1
    rw [he] at h17 hIn
    have hi2 := hIn.2
    refine q_ldc (pc := 169) (n := -1000100) kX8_151 dX8_site_169 ?_
    refine q_aload_n (pc := 171) dX8_site_171 rfl ?_
    refine q_gI (pc := 172) 17 dX8_site_172 fX8_87 rfl rfl rfl ?_
    refine q_isub (pc := 175) dX8_site_175 ?_
    refine q_ri (pc := 176) dX8_site_176 rfl ?_
    refine pM.go (fun j hj => ?_) hM1 (by rw [h17])
    rw [hF1.1.m (by decide) j hj, h0 j hj]
theorem m_site (hM : MR σ A) (hV : AV A) : qE G mX8_site (d + 6) 0 [(0, vr 82)] [] σ (ri (pM σ (s_site A))) := by
  have hK : TK A.2.2.2.2.2.1.1 A.2.2.2.2.2.1.2 := hV.2.2.2.2.2.1
  have i0 : sIn A.2.2.2.2.2.1.2 (laS A.2.2.2.2.2.1.1 A.2.2.2.2.2.1.2) := ntS_in (ntS_in (ntS_in (tkS_in (s00 hK))))
  have i3 := ftS_in (tp := A.2.2.2.2.2.1.1) (ftS_in (tp := A.2.2.2.2.2.1.1) (ftS_in (tp := A.2.2.2.2.2.1.1) i0))
  have g5 : rw0 A.2.2.2.2.2.1.1 A.2.2.2.2.2.1.2 5 = 0 := (rw0_o (by omega)).trans (by unfold g00; simp)
  refine q_aload_n (pc := 0) dX8_site_0 rfl ?_
  refine q_iconst (pc := 1) dX8_site_1 ?_
  refine q_pI (pc := 2) 0 dX8_site_2 wX8_50 rfl rfl rfl ?_
  have hM := hM.fld (i := 0) (v := 0) (by decide)
  have hF0 : ∀ j, j < 82 → up σ 82 0 0 j = σ j := fun j hj => up_ne (by omega)
  generalize up σ 82 0 0 = τ at hM hF0 ⊢
  refine q_aload_n (pc := 5) dX8_site_5 rfl ?_
  refine q_V0v (pc := 6) dX8_site_6 vX8_135 rfl rfl (Nat.le_of_ble_eq_true rfl) (Nat.le_of_ble_eq_true rfl) (m_begin hK hM.2.2.2.2.2.1) (fun σ1 hc1 => ?_)
  obtain ⟨hS1, hF1⟩ := hc1
  refine q_iconst (pc := 9) dX8_site_9 ?_
  refine q_istore_n (pc := 10) dX8_site_10 (Nat.le_of_ble_eq_true rfl) ?_
  refine m_zero_l (fun σ2 x hF2 h2 => ?_) 34 0 σ1 rfl Fr.rf (fun j a b => by omega)
  have hS2 : MS σ2 A.2.2.2.2.2.1.1 A.2.2.2.2.2.1.2 (0, 0) := by
    unfold MS MT tok RG
    rw [hF2 82 (by simp), hF2 90 (by simp)]
    exact hS1
  have hS3 := hS2.up (i := 0) (v := 1)
  have hG3 : RwR (up σ2 87 0 1) 87 g00 := fun j a b => by
    rw [up_same]
    unfold g00
    by_cases c : j = 0
    · rw [if_pos c, if_pos c]
    · rw [if_neg c, if_neg c]; exact h2 j a b
  have hF3 : F7 τ (up σ2 87 0 1) := (hF1.f7.tt ⟨hF2.wk (by simp), fun i _ => by rw [hF2 82 (by simp)]⟩).tt F7.up
  refine q_aload_n (pc := 30) dX8_site_30 rfl ?_
  refine q_getR (pc := 31) dX8_site_31 fX8_22 rfl rfl ?_
  refine q_iconst (pc := 34) dX8_site_34 ?_
  refine q_iconst (pc := 35) dX8_site_35 ?_
  refine q_iast (pc := 36) dX8_site_36 rfl (by omega) ?_
  refine m_law hK hS3 hG3 (fun σ4 hS4 hF4 hG4 => ?_)
  refine m_footAll hK hS4 hG4 (fun σ5 x hS5 hF5 hG5 => ?_)
  refine m_look hK hS5 i3 (fun σ6 hS6 hF6 => ?_)
  refine m_sort_l hK (σ := τ) 9 _ (rw0 A.2.2.2.2.2.1.1 A.2.2.2.2.2.1.2) σ6 hS6 (lkS_in i3) (((hF3.tt hF4).tt hF5).tt hF6.f7) (fun q => ?_) (fun σ7 s7 hS7 hI7 hF7 he7 hg7 => ?_)
  · have q0 := lkS_0 q
    rw [q0.1]
    rw [q0.1] at q
    exact ⟨hF6.rw (hG5 q), by omega, by omega, Or.inr q0.2⟩
  · rw [lkS_ds g5] at he7 hg7
    exact m_site_e (fun j hj => by rw [hF7.1.m (by decide) j hj, hF0 j hj]) (hM.f7 hF7) hV hS7 hI7 he7 hg7
end T8
