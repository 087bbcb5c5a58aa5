/-! ===== the reference: site ===== -/
section T8
variable {G : qGl} {d : Nat} {σ : qM} {tp : Int → Int} {tl : Int} {s : Int × Int} {g : Int → Int} {A : qA}
theorem m_zero_l {Q : Option qV → qM → Prop} (kk : ∀ σ1 x, Fr σ σ1 [87] → RwR σ1 87 (fun _ => 0) → qE G mX8_site d 30 [(1, vi x), (0, vr 82)] [] σ1 Q) : ∀ (m t : Nat) (σ' : qM), m + t = 34 → Fr σ σ' [87] → (∀ j, 0 ≤ j → j < (t : Int) → σ' 87 j = 0) → qE G mX8_site d 11 [(1, vi t), (0, vr 82)] [] σ' Q := by
  intro m
  induction m with
  | zero =>
    intro t σ' ht hF h
    refine q_iload_n (pc := 11) dX8_site_11 rfl ?_
    refine q_bipush (pc := 12) dX8_site_12 (by decide +kernel) ?_
    refine q_icmpge (pc := 14) (tgt := 30) dX8_site_14 (by decide) (by omega) (by omega) (fun h14 => ?_) (fun h => absurd h (by omega))
    exact kk σ' t hF (fun j a b => h j a (by omega))
  | succ m ih =>
    intro t σ' ht hF h
    refine q_iload_n (pc := 11) dX8_site_11 rfl ?_
    refine q_bipush (pc := 12) dX8_site_12 (by decide +kernel) ?_
    refine q_icmpge (pc := 14) (tgt := 30) dX8_site_14 (by decide) (by omega) (by omega) (fun h => absurd h (by omega)) (fun h14 => ?_)
    refine q_aload_n (pc := 17) dX8_site_17 rfl ?_
    refine q_getR (pc := 18) dX8_site_18 fX8_22 rfl rfl ?_
    refine q_iload_n (pc := 21) dX8_site_21 rfl ?_
    refine q_iconst (pc := 22) dX8_site_22 ?_
    refine q_iast (pc := 23) dX8_site_23 rfl (by omega) ?_
    refine q_iinc (pc := 24) dX8_site_24 rfl (Nat.le_of_ble_eq_true rfl) ?_
    refine q_goto (pc := 27) (tgt := 11) dX8_site_27 (by decide) ?_
    have q := ih (t + 1) (up σ' 87 t 0) (by omega) (hF.tt (Fr.up (by simp))) (fun j a b => ?_)
    · exact q_locs _ [0, 1] rfl q
    · rw [up_same]
      by_cases c : j = t
      · rw [if_pos c]
      · rw [if_neg c]
        exact h j a (by omega)
theorem m_back_l {Q : Option qV → qM → Prop} (hg : RwR σ 87 g) (kk : ∀ σ1 x, Fr σ σ1 [86] → RwR σ1 86 g → qE G mX8_site d 208 [(1, vi x), (0, vr 82)] [] σ1 Q) : ∀ (m t : Nat) (σ' : qM), m + t = 34 → Fr σ σ' [86] → (∀ j, 0 ≤ j → j < (t : Int) → σ' 86 j = g j) → qE G mX8_site d 184 [(1, vi t), (0, vr 82)] [] σ' Q := by
  intro m
  induction m with
  | zero =>
    intro t σ' ht hF h
    refine q_iload_n (pc := 184) dX8_site_184 rfl ?_
    refine q_bipush (pc := 185) dX8_site_185 (by decide +kernel) ?_
    refine q_icmpge (pc := 187) (tgt := 208) dX8_site_187 (by decide) (by omega) (by omega) (fun h187 => ?_) (fun h => absurd h (by omega))
    exact kk σ' t hF (fun j a b => h j a (by omega))
  | succ m ih =>
    intro t σ' ht hF h
    have e6 : σ' 87 t = g t := by rw [hF 87 (by simp)]; exact hg t (by omega) (by omega)
    refine q_iload_n (pc := 184) dX8_site_184 rfl ?_
    refine q_bipush (pc := 185) dX8_site_185 (by decide +kernel) ?_
    refine q_icmpge (pc := 187) (tgt := 208) dX8_site_187 (by decide) (by omega) (by omega) (fun h => absurd h (by omega)) (fun h187 => ?_)
    refine q_aload_n (pc := 190) dX8_site_190 rfl ?_
    refine q_getR (pc := 191) dX8_site_191 fX8_19 rfl rfl ?_
    refine q_iload_n (pc := 194) dX8_site_194 rfl ?_
    refine q_aload_n (pc := 195) dX8_site_195 rfl ?_
    refine q_getR (pc := 196) dX8_site_196 fX8_22 rfl rfl ?_
    refine q_iload_n (pc := 199) dX8_site_199 rfl ?_
    refine q_iald (pc := 200) dX8_site_200 rfl (by omega) ?_
    refine q_iast (pc := 201) dX8_site_201 rfl (by omega) ?_
    refine q_iinc (pc := 202) dX8_site_202 rfl (Nat.le_of_ble_eq_true rfl) ?_
    refine q_goto (pc := 205) (tgt := 184) dX8_site_205 (by decide) ?_
    have q := ih (t + 1) (up σ' 86 t (σ' 87 t)) (by omega) (hF.tt (Fr.up (by simp))) (fun j a b => ?_)
    · exact q_locs _ [0, 1] rfl q
    · rw [up_same, e6]
      by_cases c : j = t
      · rw [if_pos c, c]
      · rw [if_neg c]
        exact h j a (by omega)
end T8
