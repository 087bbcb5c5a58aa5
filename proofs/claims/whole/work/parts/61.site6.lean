/-! ===== the reference: site ===== -/
section T8
variable {G : qGl} {d : Nat} {σ : qM} {tp : Int → Int} {tl : Int} {s : Int × Int} {g : Int → Int} {A : qA}
theorem m_zero_l {Q : Option qV → qM → Prop} (kk : ∀ σ1 x, Fr σ σ1 [87] → RwR σ1 87 (fun _ => 0) → qE G mX8_site d 30 [(1, vi x), (0, vr 82)] [] σ1 Q) : ∀ (m t : Nat) (σ' : qM), m + t = 34 → Fr σ σ' [87] → (∀ j, 0 ≤ j → j < (t : Int) → σ' 87 j = 0) → qE G mX8_site d 11 [(1, vi t), (0, vr 82)] [] σ' Q := by
  intro m
  induction m with
  | zero =>
    intro t σ' ht hF h
    refine q_iload_n (pc := 11) dX8_site_11 rfl ?_
    refine q_bipush (pc := 12) dX8_site_12 (by decide +kernel) ?_
    refine q_icmpge (pc := 14) (tgt := 30) dX8_site_14 (by decide) (by omega) (by omega) (fun h14 => ?_) (fun h => absurd h (by omega))
    exact kk σ' t hF (fun j a b => h j a (by omega))
  | succ m ih =>
    intro t σ' ht hF h
    refine q_iload_n (pc := 11) dX8_site_11 rfl ?_
    refine q_bipush (pc := 12) dX8_site_12 (by decide +kernel) ?_
    refine q_icmpge (pc := 14) (tgt := 30) dX8_site_14 (by decide) (by omega) (by omega) (fun h => absurd h (by omega)) (fun h14 => ?_)
    refine q_aload_n (pc := 17) dX8_site_17 rfl ?_
    refine q_getR (pc := 18) dX8_site_18 fX8_22 rfl rfl ?_
    refine q_iload_n (pc := 21) dX8_site_21 rfl ?_
    refine q_iconst (pc := 22) dX8_site_22 ?_
    refine q_iast (pc := 23) dX8_site_23 rfl (by omega) ?_
    refine q_iinc (pc := 24) dX8_site_24 rfl (Nat.le_of_ble_eq_true rfl) ?_
    refine q_goto (pc := 27) (tgt := 11) dX8_site_27 (by decide) ?_
    have q := ih (t + 1) (up σ' 87 t 0) (by omega) (hF.tt (Fr.up (by simp))) (fun j a b => ?_)
    · exact q_locs _ [0, 1] rfl q
    · rw [up_same]
      by_cases c : j = t
      · rw [if_pos c]
      · rw [if_neg c]
        exact h j a (by omega)
theorem m_back_l {Q : Option qV → qM → Prop} (hg : RwR σ 87 g) (kk : ∀ σ1 x, Fr σ σ1 [86] → RwR σ1 86 g → qE G mX8_site d 208 [(1, vi x), (0, vr 82)] [] σ1 Q) : ∀ (m t : Nat) (σ' : qM), m + t = 34 → Fr σ σ' [86] → (∀ j, 0 ≤ j → j < (t : Int) → σ' 86 j = g j) → qE G mX8_site d 184 [(1, vi t), (0, vr 82)] [] σ' Q := by
  intro m
  induction m with
  | zero =>
    intro t σ' ht hF h
    refine q_iload_n (pc := 184) dX8_site_184 rfl ?_
    refine q_bipush (pc := 185) dX8_site_185 (by decide +kernel) ?_
    refine q_icmpge (pc := 187) (tgt := 208) dX8_site_187 (by decide) (by omega) (by omega) (fun h187 => ?_) (fun h => absurd h (by omega))
    exact kk σ' t hF (fun j a b => h j a (by omega))
  | succ m ih =>
    intro t σ' ht hF h
    have e6 : σ' 87 t = g t := by rw [hF 87 (by simp)]; exact hg t (by omega) (by omega)
    refine q_iload_n (pc := 184) dX8_site_184 rfl ?_
    refine q_bipush (pc := 185) dX8_site_185 (by decide +kernel) ?_
    refine q_icmpge (pc := 187) (tgt := 208) dX8_site_187 (by decide) (by omega) (by omega) (fun h => absurd h (by omega)) (fun h187 => ?_)
    refine q_aload_n (pc := 190) dX8_site_190 rfl ?_
    refine q_getR (pc := 191) dX8_site_191 fX8_19 rfl rfl ?_
    refine q_iload_n (pc := 194) dX8_site_194 rfl ?_
    refine q_aload_n (pc := 195) dX8_site_195 rfl ?_
    refine q_getR (pc := 196) dX8_site_196 fX8_22 rfl rfl ?_
    refine q_iload_n (pc := 199) dX8_site_199 rfl ?_
    refine q_iald (pc := 200) dX8_site_200 rfl (by omega) ?_
    refine q_iast (pc := 201) dX8_site_201 rfl (by omega) ?_
    refine q_iinc (pc := 202) dX8_site_202 rfl (Nat.le_of_ble_eq_true rfl) ?_
    refine q_goto (pc := 205) (tgt := 184) dX8_site_205 (by decide) ?_
    have q := ih (t + 1) (up σ' 86 t (σ' 87 t)) (by omega) (hF.tt (Fr.up (by simp))) (fun j a b => ?_)
    · exact q_locs _ [0, 1] rfl q
    · rw [up_same, e6]
      by_cases c : j = t
      · rw [if_pos c, c]
      · rw [if_neg c]
        exact h j a (by omega)
theorem m_law {x : Int} {Q : Option qV → qM → Prop} (hK : TK tp tl) (hS : MS σ tp tl (0, 0)) (hg : RwR σ 87 g00) (kk : ∀ σ1, MS σ1 tp tl (laS tp tl) → F7 σ σ1 → ((laS tp tl).1 = 0 → RwR σ1 87 (laR tp tl g00)) → qE G mX8_site (d + 6) 104 [(1, vi x), (0, vr 82)] [] σ1 Q) : qE G mX8_site (d + 6) 37 [(1, vi x), (0, vr 82)] [] σ Q := by
  have i0 := s00 hK
  have i1 : sIn tl (tkS tp tl 110 (0, 0)) := tkS_in i0
  have i2 : sIn tl (nmS tp tl 0 9 (tkS tp tl 110 (0, 0))) := nmS_in i1
  have i3 : sIn tl (ntS tp tl 0 9 44 (tkS tp tl 110 (0, 0))) := tkS_in i2
  have i4 : sIn tl (nmS tp tl 0 9 (ntS tp tl 0 9 44 (tkS tp tl 110 (0, 0)))) := nmS_in i3
  have i5 : sIn tl (ntS tp tl 0 9 44 (ntS tp tl 0 9 44 (tkS tp tl 110 (0, 0)))) := tkS_in i4
  have i6 : sIn tl (nmS tp tl 1 9 (ntS tp tl 0 9 44 (ntS tp tl 0 9 44 (tkS tp tl 110 (0, 0))))) := nmS_in i5
  refine q_aload_n (pc := 37) dX8_site_37 rfl ?_
  refine q_aload_n (pc := 38) dX8_site_38 rfl ?_
  refine q_bipush (pc := 39) dX8_site_39 (by decide +kernel) ?_
  refine q_V1i (pc := 41) dX8_site_41 vX8_125 rfl rfl (Nat.le_of_ble_eq_true rfl) (Nat.le_of_ble_eq_true rfl) (m_isLetter hK hS i0 (by omega)) (fun r1 σ1 hc1 => ?_)
  obtain ⟨rfl, rfl⟩ := hc1
  refine q_V1v (pc := 44) dX8_site_44 vX8_115 rfl rfl (Nat.le_of_ble_eq_true rfl) (Nat.le_of_ble_eq_true rfl) (m_letter hK hS i0 (by omega)) (fun σ2 hc2 => ?_)
  obtain ⟨hS2, hF2⟩ := hc2
  refine q_aload_n (pc := 47) dX8_site_47 rfl ?_
  refine q_getR (pc := 48) dX8_site_48 fX8_22 rfl rfl ?_
  refine q_iconst (pc := 51) dX8_site_51 ?_
  refine q_aload_n (pc := 52) dX8_site_52 rfl ?_
  refine q_iconst (pc := 53) dX8_site_53 ?_
  refine q_bipush (pc := 54) dX8_site_54 (by decide +kernel) ?_
  refine q_V2i (pc := 56) dX8_site_56 vX8_128 rfl rfl (Nat.le_of_ble_eq_true rfl) (Nat.le_of_ble_eq_true rfl) (m_number hK hS2 i1 (by omega) (by omega)) (fun r3 σ3 hc3 => ?_)
  obtain ⟨hr3, hS3, hF3⟩ := hc3
  refine q_iast (pc := 59) dX8_site_59 rfl (by omega) ?_
  refine q_aload_n (pc := 60) dX8_site_60 rfl ?_
  refine q_bipush (pc := 61) dX8_site_61 (by decide +kernel) ?_
  refine q_V1v (pc := 63) dX8_site_63 vX8_132 rfl rfl (Nat.le_of_ble_eq_true rfl) (Nat.le_of_ble_eq_true rfl) (m_mustSign hK hS3.up i2 (by omega)) (fun σ4 hc4 => ?_)
  obtain ⟨hS4, hF4⟩ := hc4
  refine q_aload_n (pc := 66) dX8_site_66 rfl ?_
  refine q_getR (pc := 67) dX8_site_67 fX8_22 rfl rfl ?_
  refine q_iconst (pc := 70) dX8_site_70 ?_
  refine q_aload_n (pc := 71) dX8_site_71 rfl ?_
  refine q_iconst (pc := 72) dX8_site_72 ?_
  refine q_bipush (pc := 73) dX8_site_73 (by decide +kernel) ?_
  refine q_V2i (pc := 75) dX8_site_75 vX8_128 rfl rfl (Nat.le_of_ble_eq_true rfl) (Nat.le_of_ble_eq_true rfl) (m_number hK hS4 i3 (by omega) (by omega)) (fun r5 σ5 hc5 => ?_)
  obtain ⟨hr5, hS5, hF5⟩ := hc5
  refine q_iast (pc := 78) dX8_site_78 rfl (by omega) ?_
  refine q_aload_n (pc := 79) dX8_site_79 rfl ?_
  refine q_bipush (pc := 80) dX8_site_80 (by decide +kernel) ?_
  refine q_V1v (pc := 82) dX8_site_82 vX8_132 rfl rfl (Nat.le_of_ble_eq_true rfl) (Nat.le_of_ble_eq_true rfl) (m_mustSign hK hS5.up i4 (by omega)) (fun σ6 hc6 => ?_)
  obtain ⟨hS6, hF6⟩ := hc6
  refine q_aload_n (pc := 85) dX8_site_85 rfl ?_
  refine q_getR (pc := 86) dX8_site_86 fX8_22 rfl rfl ?_
  refine q_iconst (pc := 89) dX8_site_89 ?_
  refine q_aload_n (pc := 90) dX8_site_90 rfl ?_
  refine q_iconst (pc := 91) dX8_site_91 ?_
  refine q_bipush (pc := 92) dX8_site_92 (by decide +kernel) ?_
  refine q_V2i (pc := 94) dX8_site_94 vX8_128 rfl rfl (Nat.le_of_ble_eq_true rfl) (Nat.le_of_ble_eq_true rfl) (m_number hK hS6 i5 (by omega) (by omega)) (fun r7 σ7 hc7 => ?_)
  obtain ⟨hr7, hS7, hF7⟩ := hc7
  refine q_iast (pc := 97) dX8_site_97 rfl (by omega) ?_
  refine q_aload_n (pc := 98) dX8_site_98 rfl ?_
  refine q_bipush (pc := 99) dX8_site_99 (by decide +kernel) ?_
  refine q_V1v (pc := 101) dX8_site_101 vX8_132 rfl rfl (Nat.le_of_ble_eq_true rfl) (Nat.le_of_ble_eq_true rfl) (m_mustSign hK hS7.up i6 (by omega)) (fun σ8 hc8 => ?_)
  obtain ⟨hS8, hF8⟩ := hc8
  refine kk _ hS8 ((((((((hF2.f7.tt hF3.f7).tt F7.up).tt hF4.f7).tt hF5.f7).tt F7.up).tt hF6.f7).tt hF7.f7).tt F7.up |>.tt hF8.f7) (fun z => ?_)
  have z6 := (tkS_ok (show (tkS tp tl 59 (nmS tp tl 1 9 (ntS tp tl 0 9 44 (ntS tp tl 0 9 44 (tkS tp tl 110 (0, 0)))))).1 = 0 from z)).1
  have z5 := (nmS_ok z6).1
  have z4 := (tkS_ok (show (tkS tp tl 44 (nmS tp tl 0 9 (ntS tp tl 0 9 44 (tkS tp tl 110 (0, 0))))).1 = 0 from z5)).1
  have z3 := (nmS_ok z4).1
  have z2 := (tkS_ok (show (tkS tp tl 44 (nmS tp tl 0 9 (tkS tp tl 110 (0, 0)))).1 = 0 from z3)).1
  have q := F6.rw hF8 (RwR.up (i := 3) (v := r7) (F6.rw hF7 (F6.rw hF6 (RwR.up (i := 2) (v := r5) (F6.rw hF5 (F6.rw hF4 (RwR.up (i := 1) (v := r3) (F6.rw hF3 (F6.rw hF2 hg)))))))))
  rw [← hr3 z2, ← hr5 z4, ← hr7 z6] at q
  exact q
end T8
