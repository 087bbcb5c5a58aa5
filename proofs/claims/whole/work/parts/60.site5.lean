/-! ===== the reference: all deeds ===== -/
section T8
variable {G : qGl} {d : Nat} {σ : qM} {tp : Int → Int} {tl : Int}
theorem m_sort_l (hK : TK tp tl) {x : Int} {Q : Option qV → qM → Prop} : ∀ (m : Nat) (s : Int × Int) (g : Int → Int) (σ' : qM), MS σ' tp tl s → sIn tl s → F7 σ σ' → (s.1 = 0 → RwR σ' 87 g ∧ (0 ≤ g 5 ∧ g 5 ≤ 7) ∧ 9 ≤ m + g 5 ∧ (0 < g 5 ∨ (s.2 < tl ∧ kb (tp s.2) ≠ 0))) →
    (∀ σ1 s1, MS σ1 tp tl s1 → sIn tl s1 → F7 σ σ1 → enS tl s1 = (dsL tp tl m (s, g)).1 → (s1.1 = 0 → RwR σ1 87 (dsL tp tl m (s, g)).2) → qE G mX8_site (d + 6) 162 [(1, vi x), (0, vr 82)] [] σ1 Q) →
    qE G mX8_site (d + 6) 148 [(1, vi x), (0, vr 82)] [] σ' Q := by
  intro m
  induction m with
  | zero =>
    intro s g σ' hS hI hF hc kk
    have z : s.1 ≠ 0 := fun z => by have := (hc z).2; omega
    have e : enS tl s = s := if_neg (fun q => z q.1)
    refine q_aload_n (pc := 148) dX8_site_148 rfl ?_
    refine q_V0i (pc := 149) dX8_site_149 vX8_141 rfl rfl (Nat.le_of_ble_eq_true rfl) (Nat.le_of_ble_eq_true rfl) (m_isSort hK hS hI) (fun r1 σ1 hc1 => ?_)
    obtain ⟨rfl, rfl⟩ := hc1
    refine q_ifeqb (pc := 152) (tgt := 162) dX8_site_152 (by decide) (fun h152 => ?_) (fun h => absurd h (by first | omega | simp_all))
    exact kk σ' s hS hI hF e (fun q => absurd q z)
  | succ m ih =>
    intro s g σ' hS hI hF hc kk
    by_cases y : s.1 = 0 ∧ s.2 < tl ∧ kb (tp s.2) ≠ 0
    · obtain ⟨hg, h5, h9, hx⟩ := hc y.1
      have hs := dsL_s (tp := tp) (tl := tl) (z := (s, g)) y.1 (fun q => by have q1 : s.2 = tl := q.1; have := y.2.1; omega) m
      rw [hs] at kk
      have hin : sIn tl (dS1 tp tl (s, g)).1 ∧ ((dS1 tp tl (s, g)).1.1 = 0 → (dS1 tp tl (s, g)).2 5 = g 5 + 1 ∧ g 5 ≠ 7) := by
        unfold dS1
        rw [if_pos (show (s, g).1.2 < tl ∧ kb (tp (s, g).1.2) ≠ 0 from y.2)]
        by_cases c2 : g 5 = 7
        · rw [if_pos (show (s, g).2 5 = 7 from c2)]
          exact ⟨⟨by show (0 : Int) ≤ 3 ∧ (3 : Int) ≤ 3; omega, hI.2⟩, fun q => absurd q (by simp)⟩
        · rw [if_neg (show ¬ (s, g).2 5 = 7 from c2)]
          exact ⟨ntS_in (ntS_in ⟨by show (0 : Int) ≤ 0 ∧ (0 : Int) ≤ 3; omega, by show 0 ≤ s.2 + 1 ∧ s.2 + 1 ≤ tl; have := hI.2; have := y.2.1; omega⟩), fun _ => ⟨deR_5 (tp := tp) (tl := tl) (s := s) (g := g), c2⟩⟩
      refine q_aload_n (pc := 148) dX8_site_148 rfl ?_
      refine q_V0i (pc := 149) dX8_site_149 vX8_141 rfl rfl (Nat.le_of_ble_eq_true rfl) (Nat.le_of_ble_eq_true rfl) (m_isSort hK hS hI) (fun r1 σ1 hc1 => ?_)
      obtain ⟨rfl, rfl⟩ := hc1
      refine q_ifeqb (pc := 152) (tgt := 162) dX8_site_152 (by decide) (fun h => absurd h (by first | omega | simp_all)) (fun h152 => ?_)
      refine q_aload_n (pc := 155) dX8_site_155 rfl ?_
      refine q_V0v (pc := 156) dX8_site_156 vX8_145 rfl rfl (Nat.le_of_ble_eq_true rfl) (Nat.le_of_ble_eq_true rfl) (m_readDeed hK hS hI y.1 y.2 h5 hg) (fun σ2 hc2 => ?_)
      obtain ⟨hS2, hF2, hr2⟩ := hc2
      refine q_goto (pc := 159) (tgt := 148) dX8_site_159 (by decide) ?_
      refine ih (dS1 tp tl (s, g)).1 (dS1 tp tl (s, g)).2 σ2 hS2 hin.1 (hF.tt hF2) (fun q => ?_) kk
      have q2 := hin.2 q
      refine ⟨hr2 q, by omega, by push_cast at h9; omega, Or.inl (by omega)⟩
    · have e : enS tl s = (dsL tp tl (m + 1) (s, g)).1 ∧ (s.1 = 0 → (dsL tp tl (m + 1) (s, g)).2 = g) := by
        by_cases z : s.1 = 0
        · obtain ⟨hg, h5, h9, hx⟩ := hc z
          have h0 : 0 < g 5 := by
            rcases hx with q | q
            · exact q
            · exact absurd ⟨z, q⟩ y
          by_cases p : s.2 < tl
          · have hs := dsL_s (tp := tp) (tl := tl) (z := (s, g)) z (fun q => by have q1 : s.2 = tl := q.1; omega) m
            have ed : dS1 tp tl (s, g) = ((1, s.2), g) := by
              unfold dS1
              rw [if_neg (show ¬ ((s, g).1.2 < tl ∧ kb (tp (s, g).1.2) ≠ 0) from fun q => y ⟨z, q⟩), if_neg (show ¬ ((s, g).1.2 < tl ∧ tp (s, g).1.2 = 119 ∧ (s, g).2 5 = 0) from fun q => by have : g 5 = 0 := q.2.2; omega)]
            rw [hs, ed, dsL_f (by simp)]
            exact ⟨if_pos ⟨z, p⟩, fun _ => rfl⟩
          · have hs := dsL_e (tp := tp) (tl := tl) (z := (s, g)) z ⟨by show s.2 = tl; have := hI.2; omega, h0⟩ m
            rw [hs]
            exact ⟨if_neg (fun q => p q.2), fun _ => rfl⟩
        · rw [dsL_f (z := (s, g)) z (m + 1)]
          exact ⟨if_neg (fun q => z q.1), fun _ => rfl⟩
      refine q_aload_n (pc := 148) dX8_site_148 rfl ?_
      refine q_V0i (pc := 149) dX8_site_149 vX8_141 rfl rfl (Nat.le_of_ble_eq_true rfl) (Nat.le_of_ble_eq_true rfl) (m_isSort hK hS hI) (fun r1 σ1 hc1 => ?_)
      obtain ⟨rfl, rfl⟩ := hc1
      refine q_ifeqb (pc := 152) (tgt := 162) dX8_site_152 (by decide) (fun h152 => ?_) (fun h => absurd h (by first | omega | simp_all))
      exact kk σ' s hS hI hF e.1 (fun q => by rw [e.2 q]; exact (hc q).1)
end T8
