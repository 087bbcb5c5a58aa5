/-! ===== the class: the tape ===== -/
def TP (σ : qM) (tp : Int → Int) (tl : Int) (s : Int × Int) : Prop := σ 13 1 = tl ∧ σ 13 2 = s.2 ∧ σ 13 3 = s.1 ∧ ∀ j, 0 ≤ j → j < tl → σ 14 j = tp j
def TK (tp : Int → Int) (tl : Int) : Prop := (0 ≤ tl ∧ tl ≤ 120) ∧ ∀ j, 0 ≤ j → j < tl → 0 ≤ tp j ∧ tp j ≤ 255
section T6
variable {G : qGl} {d : Nat} {σ : qM} {tp : Int → Int} {tl : Int} {s : Int × Int}
theorem TP.at (h : TP σ tp tl s) {v : Int} : TP (up σ 13 2 v) tp tl (s.1, v) := by
  obtain ⟨h1, h2, h3, h4⟩ := h
  refine ⟨by rw [up_same, if_neg (by omega)]; exact h1, by rw [up_same, if_pos rfl], by rw [up_same, if_neg (by omega)]; exact h3, ?_⟩
  rw [up_ne (by omega)]
  exact h4
theorem TP.fa (h : TP σ tp tl s) {v : Int} : TP (up σ 13 3 v) tp tl (v, s.2) := by
  obtain ⟨h1, h2, h3, h4⟩ := h
  refine ⟨by rw [up_same, if_neg (by omega)]; exact h1, by rw [up_same, if_neg (by omega)]; exact h2, by rw [up_same, if_pos rfl], ?_⟩
  rw [up_ne (by omega)]
  exact h4
theorem TP.fr {σ1 : qM} {S : List Nat} (h : TP σ tp tl s) (hF : Fr σ σ1 S) (h1 : 13 ∉ S) (h2 : 14 ∉ S) : TP σ1 tp tl s := by
  unfold TP
  rw [hF 13 h1, hF 14 h2]
  exact h
theorem x_stop {v : Int} : qE G mX6_stop d 0 [(0, vr 13), (1, vi v)] [] σ (ri fun r σ1 => 0 = r ∧ up σ 13 3 v = σ1) := by
  refine q_aload_n (pc := 0) dX6_stop_0 rfl ?_
  refine q_iload_n (pc := 1) dX6_stop_1 rfl ?_
  refine q_pI (pc := 2) 3 dX6_stop_2 wX6_22 rfl rfl rfl ?_
  refine q_iconst (pc := 5) dX6_stop_5 ?_
  refine q_rz (pc := 6) dX6_stop_6 rfl (by first | exact bi_01 _ | omega) ?_
  exact ⟨rfl, rfl⟩
theorem x_take {c : Int} (hT : TP σ tp tl s) (hK : TK tp tl) (h0 : s.1 = 0) (hi : sIn tl s) (hc : 0 ≤ c ∧ c ≤ 255) : qE G mX6_take (d + 1) 0 [(0, vr 13), (1, vi c)] [] σ (ri fun r σ1 => bi ((tkS tp tl c s).1 = 0) = r ∧ Fr σ σ1 [13] ∧ TP σ1 tp tl (tkS tp tl c s)) := by
  obtain ⟨t1, t2, t3, t4⟩ := id hT
  have hk := hK.1
  have hi2 := hi.2
  refine q_aload_n (pc := 0) dX6_take_0 rfl ?_
  refine q_gI (pc := 1) 2 dX6_take_1 fX6_19 rfl rfl rfl ?_
  refine q_aload_n (pc := 4) dX6_take_4 rfl ?_
  refine q_gI (pc := 5) 1 dX6_take_5 fX6_15 rfl rfl rfl ?_
  refine q_icmpge (pc := 8) (tgt := 24) dX6_take_8 (by decide) (by omega) (by omega) (fun h8 => ?_) (fun h8 => ?_)
  · refine q_aload_n (pc := 24) dX6_take_24 rfl ?_
    refine q_iconst (pc := 25) dX6_take_25 ?_
    refine q_V1i (pc := 26) dX6_take_26 vX6_84 rfl rfl (Nat.le_of_ble_eq_true rfl) (Nat.le_of_ble_eq_true rfl) (x_stop) (fun r1 σ1 hc1 => ?_)
    obtain ⟨rfl, rfl⟩ := hc1
    refine q_rz (pc := 29) dX6_take_29 rfl (by first | exact bi_01 _ | omega) ?_
    have e : tkS tp tl c s = (1, s.2) := by
      unfold tkS
      rw [if_pos h0, if_neg (fun z => by
        have z1 := z.1
        have z2 := z.2
        rw [← t2] at z1 z2
        first | omega)]
    rw [e]
    exact ⟨bi_f (by simp), Fr.up (by simp), hT.fa⟩
  · refine q_aload_n (pc := 11) dX6_take_11 rfl ?_
    refine q_getR (pc := 12) dX6_take_12 fX6_11 rfl rfl ?_
    refine q_aload_n (pc := 15) dX6_take_15 rfl ?_
    refine q_gI (pc := 16) 2 dX6_take_16 fX6_19 rfl rfl rfl ?_
    have tb := t4 s.2 (by omega) (by omega)
    rw [← t2] at tb
    have hb := hK.2 s.2 (by omega) (by omega)
    rw [← t2] at hb
    refine q_iald (pc := 19) dX6_take_19 rfl (by omega) ?_
    refine q_iload_n (pc := 20) dX6_take_20 rfl ?_
    refine q_icmpeq (pc := 21) (tgt := 30) dX6_take_21 (by decide) (by omega) (by omega) (fun h21 => ?_) (fun h21 => ?_)
    · refine q_aload_n (pc := 30) dX6_take_30 rfl ?_
      refine q_dup (pc := 31) dX6_take_31 rfl ?_
      refine q_gI (pc := 32) 2 dX6_take_32 fX6_19 rfl rfl rfl ?_
      refine q_iconst (pc := 35) dX6_take_35 ?_
      refine q_iadd (pc := 36) dX6_take_36 ?_
      refine q_pI (pc := 37) 2 dX6_take_37 wX6_19 rfl rfl rfl ?_
      refine q_iconst (pc := 40) dX6_take_40 ?_
      refine q_rz (pc := 41) dX6_take_41 rfl (by first | exact bi_01 _ | omega) ?_
      have e : tkS tp tl c s = (0, s.2 + 1) := by
        unfold tkS
        rw [if_pos h0, if_pos ⟨by omega, by rw [← t2]; omega⟩]
      rw [e]
      refine ⟨bi_t rfl, Fr.up (by simp), ?_⟩
      have q := hT.at (v := σ 13 2 + 1)
      rw [t2, h0] at q
      rw [t2]
      exact q
    · refine q_aload_n (pc := 24) dX6_take_24 rfl ?_
      refine q_iconst (pc := 25) dX6_take_25 ?_
      refine q_V1i (pc := 26) dX6_take_26 vX6_84 rfl rfl (Nat.le_of_ble_eq_true rfl) (Nat.le_of_ble_eq_true rfl) (x_stop) (fun r2 σ2 hc2 => ?_)
      obtain ⟨rfl, rfl⟩ := hc2
      refine q_rz (pc := 29) dX6_take_29 rfl (by first | exact bi_01 _ | omega) ?_
      have e : tkS tp tl c s = (1, s.2) := by
        unfold tkS
        rw [if_pos h0, if_neg (fun z => by
          have z1 := z.1
          have z2 := z.2
          rw [← t2] at z1 z2
          first | omega)]
      rw [e]
      exact ⟨bi_f (by simp), Fr.up (by simp), hT.fa⟩
theorem nv_1 {p : Int} : nv tp p 1 = tp p - 48 := by unfold nv; rw [if_neg (by omega), if_pos rfl]
theorem nv_2 {p k : Int} (h : 2 ≤ k) : nv tp p k = (tp p - 48) * 10 + tp (p + 1) - 48 := by unfold nv; rw [if_neg (by omega), if_neg (by omega)]
theorem nv_0 {p : Int} : nv tp p 0 = 0 := rfl
theorem x_num_l {lo hi c : Int} (hT : TP σ tp tl s) (hK : TK tp tl) (h0 : s.1 = 0) (hi' : sIn tl s) (hc : 0 ≤ c ∧ c ≤ 255) (hlo : 0 ≤ lo ∧ lo ≤ 100) (hhi : 0 ≤ hi ∧ hi ≤ 100) : ∀ (m k : Nat), s.2 + k + m = tl → (∀ j : Nat, j < k → isd tp tl (s.2 + j)) → qE G mX6_takeNumber (d + 2) 12 [(6, vi (s.2 + k)), (5, vi (nv tp s.2 k)), (4, vi k), (0, vr 13), (1, vi lo), (2, vi hi), (3, vi c)] [] σ (ri fun r σ1 => nvS tp tl s = r ∧ Fr σ σ1 [13] ∧ TP σ1 tp tl (ntS tp tl lo hi c s)) := by
  obtain ⟨t1, t2, t3, t4⟩ := id hT
  have hk := hK.1
  have hi2 := hi'.2
  have fin : ∀ k : Nat, s.2 + k ≤ tl → (∀ j : Nat, j < k → isd tp tl (s.2 + j)) → ¬ isd tp tl (s.2 + k) → qE G mX6_takeNumber (d + 2) 78 [(6, vi (s.2 + k)), (5, vi (nv tp s.2 k)), (4, vi k), (0, vr 13), (1, vi lo), (2, vi hi), (3, vi c)] [] σ (ri fun r σ1 => nvS tp tl s = r ∧ Fr σ σ1 [13] ∧ TP σ1 tp tl (ntS tp tl lo hi c s)) := by
    intro k hkl hd hn
    have ed := dg_eq (m := 120) (k := k) (p := s.2) (by omega) hd hn
    have hnv : -1000 ≤ nv tp s.2 k ∧ nv tp s.2 k ≤ 10000 := by
      have q : ∀ j : Nat, j < k → 48 ≤ tp (s.2 + j) ∧ tp (s.2 + j) ≤ 57 := fun j hj => (hd j hj).2
      rcases Nat.eq_zero_or_pos k with z | z
      · subst z; rw [show ((0 : Nat) : Int) = 0 from rfl, nv_0]; omega
      · have q0 := q 0 z
        rw [show s.2 + ((0 : Nat) : Int) = s.2 by omega] at q0
        rcases (show k = 1 ∨ 2 ≤ k by omega) with y | y
        · subst y; rw [show ((1 : Nat) : Int) = 1 from rfl, nv_1]; omega
        · have q1 := q 1 (by omega)
          rw [show s.2 + ((1 : Nat) : Int) = s.2 + 1 from rfl] at q1
          rw [nv_2 (by omega)]; omega
    refine q_iload (pc := 78) dX6_takeNumber_78 rfl ?_
    refine q_iconst (pc := 80) dX6_takeNumber_80 ?_
    refine q_icmplt (pc := 81) (tgt := 90) dX6_takeNumber_81 (by decide) (by omega) (by omega) (fun h81 => ?_) (fun h81 => ?_)
    · refine q_aload_n (pc := 90) dX6_takeNumber_90 rfl ?_
      refine q_iconst (pc := 91) dX6_takeNumber_91 ?_
      refine q_V1i (pc := 92) dX6_takeNumber_92 vX6_84 rfl rfl (Nat.le_of_ble_eq_true rfl) (Nat.le_of_ble_eq_true rfl) (x_stop) (fun r1 σ1 hc1 => ?_)
      obtain ⟨rfl, rfl⟩ := hc1
      refine q_pop (pc := 95) dX6_takeNumber_95 rfl ?_
      refine q_goto (pc := 96) (tgt := 137) dX6_takeNumber_96 (by decide) ?_
      refine q_iload (pc := 137) dX6_takeNumber_137 rfl ?_
      refine q_ri (pc := 139) dX6_takeNumber_139 rfl ?_
      refine ⟨by unfold nvS; rw [ed], ?_, ?_⟩
      · first
        | exact Fr.up (by simp)
        | exact Fr.tt (Fr.up (by simp)) hF1
      · unfold ntS nmS
        rw [if_pos h0, ed]
        first
        | (rw [if_neg (by omega), tkS_f (by simp)]; exact hT.fa)
        | (rw [if_pos (by omega), if_neg (by omega), tkS_f (by simp)]; exact hT.fa)
        | (rw [if_pos (by omega), if_pos (by omega)]; exact hT1)
    · refine q_iload (pc := 84) dX6_takeNumber_84 rfl ?_
      refine q_iconst (pc := 86) dX6_takeNumber_86 ?_
      refine q_icmple (pc := 87) (tgt := 99) dX6_takeNumber_87 (by decide) (by omega) (by omega) (fun h87 => ?_) (fun h87 => ?_)
      · refine q_iload (pc := 99) dX6_takeNumber_99 rfl ?_
        refine q_iload_n (pc := 101) dX6_takeNumber_101 rfl ?_
        refine q_icmplt (pc := 102) (tgt := 111) dX6_takeNumber_102 (by decide) (by omega) (by omega) (fun h102 => ?_) (fun h102 => ?_)
        · refine q_aload_n (pc := 111) dX6_takeNumber_111 rfl ?_
          refine q_iconst (pc := 112) dX6_takeNumber_112 ?_
          refine q_V1i (pc := 113) dX6_takeNumber_113 vX6_84 rfl rfl (Nat.le_of_ble_eq_true rfl) (Nat.le_of_ble_eq_true rfl) (x_stop) (fun r2 σ2 hc2 => ?_)
          obtain ⟨rfl, rfl⟩ := hc2
          refine q_pop (pc := 116) dX6_takeNumber_116 rfl ?_
          refine q_goto (pc := 117) (tgt := 137) dX6_takeNumber_117 (by decide) ?_
          refine q_iload (pc := 137) dX6_takeNumber_137 rfl ?_
          refine q_ri (pc := 139) dX6_takeNumber_139 rfl ?_
          refine ⟨by unfold nvS; rw [ed], ?_, ?_⟩
          · first
            | exact Fr.up (by simp)
            | exact Fr.tt (Fr.up (by simp)) hF2
          · unfold ntS nmS
            rw [if_pos h0, ed]
            first
            | (rw [if_neg (by omega), tkS_f (by simp)]; exact hT.fa)
            | (rw [if_pos (by omega), if_neg (by omega), tkS_f (by simp)]; exact hT.fa)
            | (rw [if_pos (by omega), if_pos (by omega)]; exact hT2)
        · refine q_iload (pc := 105) dX6_takeNumber_105 rfl ?_
          refine q_iload_n (pc := 107) dX6_takeNumber_107 rfl ?_
          refine q_icmple (pc := 108) (tgt := 120) dX6_takeNumber_108 (by decide) (by omega) (by omega) (fun h108 => ?_) (fun h108 => ?_)
          · refine q_aload_n (pc := 120) dX6_takeNumber_120 rfl ?_
            refine q_dup (pc := 121) dX6_takeNumber_121 rfl ?_
            refine q_gI (pc := 122) 2 dX6_takeNumber_122 fX6_19 rfl rfl rfl ?_
            refine q_iload (pc := 125) dX6_takeNumber_125 rfl ?_
            refine q_iadd (pc := 127) dX6_takeNumber_127 ?_
            refine q_pI (pc := 128) 2 dX6_takeNumber_128 wX6_19 rfl rfl rfl ?_
            have hTa : TP (up σ 13 2 (σ 13 2 + k)) tp tl (0, s.2 + k) := by
              have q := hT.at (v := σ 13 2 + k)
              rw [t2, h0] at q
              rw [t2]
              exact q
            refine q_aload_n (pc := 131) dX6_takeNumber_131 rfl ?_
            refine q_iload_n (pc := 132) dX6_takeNumber_132 rfl ?_
            refine q_V1i (pc := 133) dX6_takeNumber_133 vX6_49 rfl rfl (Nat.le_of_ble_eq_true rfl) (Nat.le_of_ble_eq_true rfl) (x_take hTa hK rfl ⟨by show (0 : Int) ≤ 0 ∧ (0 : Int) ≤ 3; omega, by show 0 ≤ s.2 + (k : Int) ∧ s.2 + (k : Int) ≤ tl; omega⟩ hc) (fun r3 σ3 hc3 => ?_)
            obtain ⟨hr3, hF3, hT3⟩ := hc3
            refine q_pop (pc := 136) dX6_takeNumber_136 rfl ?_
            refine q_iload (pc := 137) dX6_takeNumber_137 rfl ?_
            refine q_ri (pc := 139) dX6_takeNumber_139 rfl ?_
            refine ⟨by unfold nvS; rw [ed], ?_, ?_⟩
            · first
              | exact Fr.up (by simp)
              | exact Fr.tt (Fr.up (by simp)) hF3
            · unfold ntS nmS
              rw [if_pos h0, ed]
              first
              | (rw [if_neg (by omega), tkS_f (by simp)]; exact hT.fa)
              | (rw [if_pos (by omega), if_neg (by omega), tkS_f (by simp)]; exact hT.fa)
              | (rw [if_pos (by omega), if_pos (by omega)]; exact hT3)
          · refine q_aload_n (pc := 111) dX6_takeNumber_111 rfl ?_
            refine q_iconst (pc := 112) dX6_takeNumber_112 ?_
            refine q_V1i (pc := 113) dX6_takeNumber_113 vX6_84 rfl rfl (Nat.le_of_ble_eq_true rfl) (Nat.le_of_ble_eq_true rfl) (x_stop) (fun r4 σ4 hc4 => ?_)
            obtain ⟨rfl, rfl⟩ := hc4
            refine q_pop (pc := 116) dX6_takeNumber_116 rfl ?_
            refine q_goto (pc := 117) (tgt := 137) dX6_takeNumber_117 (by decide) ?_
            refine q_iload (pc := 137) dX6_takeNumber_137 rfl ?_
            refine q_ri (pc := 139) dX6_takeNumber_139 rfl ?_
            refine ⟨by unfold nvS; rw [ed], ?_, ?_⟩
            · first
              | exact Fr.up (by simp)
              | exact Fr.tt (Fr.up (by simp)) hF4
            · unfold ntS nmS
              rw [if_pos h0, ed]
              first
              | (rw [if_neg (by omega), tkS_f (by simp)]; exact hT.fa)
              | (rw [if_pos (by omega), if_neg (by omega), tkS_f (by simp)]; exact hT.fa)
              | (rw [if_pos (by omega), if_pos (by omega)]; exact hT4)
      · refine q_aload_n (pc := 90) dX6_takeNumber_90 rfl ?_
        refine q_iconst (pc := 91) dX6_takeNumber_91 ?_
        refine q_V1i (pc := 92) dX6_takeNumber_92 vX6_84 rfl rfl (Nat.le_of_ble_eq_true rfl) (Nat.le_of_ble_eq_true rfl) (x_stop) (fun r5 σ5 hc5 => ?_)
        obtain ⟨rfl, rfl⟩ := hc5
        refine q_pop (pc := 95) dX6_takeNumber_95 rfl ?_
        refine q_goto (pc := 96) (tgt := 137) dX6_takeNumber_96 (by decide) ?_
        refine q_iload (pc := 137) dX6_takeNumber_137 rfl ?_
        refine q_ri (pc := 139) dX6_takeNumber_139 rfl ?_
        refine ⟨by unfold nvS; rw [ed], ?_, ?_⟩
        · first
          | exact Fr.up (by simp)
          | exact Fr.tt (Fr.up (by simp)) hF5
        · unfold ntS nmS
          rw [if_pos h0, ed]
          first
          | (rw [if_neg (by omega), tkS_f (by simp)]; exact hT.fa)
          | (rw [if_pos (by omega), if_neg (by omega), tkS_f (by simp)]; exact hT.fa)
          | (rw [if_pos (by omega), if_pos (by omega)]; exact hT5)
  intro m
  induction m with
  | zero =>
    intro k hm hd
    refine q_iload (pc := 12) dX6_takeNumber_12 rfl ?_
    refine q_aload_n (pc := 14) dX6_takeNumber_14 rfl ?_
    refine q_gI (pc := 15) 1 dX6_takeNumber_15 fX6_15 rfl rfl rfl ?_
    refine q_icmpge (pc := 18) (tgt := 78) dX6_takeNumber_18 (by decide) (by omega) (by omega) (fun h18 => ?_) (fun h => absurd h (by omega))
    exact fin k (by omega) hd (fun z => by have := z.1; omega)
  | succ m ih =>
    intro k hm hd
    have tb := t4 (s.2 + k) (by omega) (by omega)
    have hb := hK.2 (s.2 + k) (by omega) (by omega)
    refine q_iload (pc := 12) dX6_takeNumber_12 rfl ?_
    refine q_aload_n (pc := 14) dX6_takeNumber_14 rfl ?_
    refine q_gI (pc := 15) 1 dX6_takeNumber_15 fX6_15 rfl rfl rfl ?_
    refine q_icmpge (pc := 18) (tgt := 78) dX6_takeNumber_18 (by decide) (by omega) (by omega) (fun h => absurd h (by omega)) (fun h18 => ?_)
    refine q_aload_n (pc := 21) dX6_takeNumber_21 rfl ?_
    refine q_getR (pc := 22) dX6_takeNumber_22 fX6_11 rfl rfl ?_
    refine q_iload (pc := 25) dX6_takeNumber_25 rfl ?_
    refine q_iald (pc := 27) dX6_takeNumber_27 rfl (by omega) ?_
    refine q_bipush (pc := 28) dX6_takeNumber_28 (by decide +kernel) ?_
    refine q_icmplt (pc := 30) (tgt := 78) dX6_takeNumber_30 (by decide) (by omega) (by omega) (fun h30 => ?_) (fun h30 => ?_)
    · exact fin k (by omega) hd (fun z => by have := z.2; omega)
    · refine q_aload_n (pc := 33) dX6_takeNumber_33 rfl ?_
      refine q_getR (pc := 34) dX6_takeNumber_34 fX6_11 rfl rfl ?_
      refine q_iload (pc := 37) dX6_takeNumber_37 rfl ?_
      refine q_iald (pc := 39) dX6_takeNumber_39 rfl (by omega) ?_
      refine q_bipush (pc := 40) dX6_takeNumber_40 (by decide +kernel) ?_
      refine q_icmpgt (pc := 42) (tgt := 78) dX6_takeNumber_42 (by decide) (by omega) (by omega) (fun h42 => ?_) (fun h42 => ?_)
      · exact fin k (by omega) hd (fun z => by have := z.2; omega)
      · refine q_iinc (pc := 45) dX6_takeNumber_45 rfl (Nat.le_of_ble_eq_true rfl) ?_
        refine q_iload (pc := 48) dX6_takeNumber_48 rfl ?_
        refine q_iconst (pc := 50) dX6_takeNumber_50 ?_
        refine q_icmpgt (pc := 51) (tgt := 72) dX6_takeNumber_51 (by decide) (by omega) (by omega) (fun h51 => ?_) (fun h51 => ?_)
        · refine q_iinc (pc := 72) dX6_takeNumber_72 rfl (Nat.le_of_ble_eq_true rfl) ?_
          refine q_goto (pc := 75) (tgt := 12) dX6_takeNumber_75 (by decide) ?_
          have hz : isd tp tl (s.2 + k) := ⟨by omega, by omega, by omega⟩
          have q := ih (k + 1) (by push_cast; omega) (fun j hj => by
            by_cases c : j = k
            · rw [c]; exact hz
            · exact hd j (by omega))
          rw [show s.2 + ((k + 1 : Nat) : Int) = s.2 + k + 1 by push_cast; omega] at q
          first
          | (rw [show nv tp s.2 ((k + 1 : Nat) : Int) = nv tp s.2 k by rw [nv_2 (by push_cast; omega), nv_2 (by omega)]] at q
             exact q_locs _ [0, 2, 1, 3, 4, 5, 6] rfl q)
          | (rw [show nv tp s.2 ((k + 1 : Nat) : Int) = nv tp s.2 k * 10 + σ 14 (s.2 + k) - 48 by
               rw [tb]
               rcases (show k = 0 ∨ k = 1 by omega) with y | y
               · subst y
                 rw [show ((0 + 1 : Nat) : Int) = 1 from rfl, show ((0 : Nat) : Int) = 0 from rfl, nv_1, nv_0, show s.2 + 0 = s.2 by omega]
                 omega
               · subst y
                 rw [nv_2 (by omega), show ((1 : Nat) : Int) = 1 from rfl, nv_1]] at q
             exact q_locs _ [0, 2, 1, 3, 4, 5, 6] rfl q)
        · refine q_iload (pc := 54) dX6_takeNumber_54 rfl ?_
          refine q_bipush (pc := 56) dX6_takeNumber_56 (by decide +kernel) ?_
          refine q_imul (pc := 58) dX6_takeNumber_58 ?_
          refine q_aload_n (pc := 59) dX6_takeNumber_59 rfl ?_
          refine q_getR (pc := 60) dX6_takeNumber_60 fX6_11 rfl rfl ?_
          refine q_iload (pc := 63) dX6_takeNumber_63 rfl ?_
          refine q_iald (pc := 65) dX6_takeNumber_65 rfl (by omega) ?_
          refine q_iadd (pc := 66) dX6_takeNumber_66 ?_
          refine q_bipush (pc := 67) dX6_takeNumber_67 (by decide +kernel) ?_
          refine q_isub (pc := 69) dX6_takeNumber_69 ?_
          refine q_istore (pc := 70) dX6_takeNumber_70 (Nat.le_of_ble_eq_true rfl) ?_
          refine q_iinc (pc := 72) dX6_takeNumber_72 rfl (Nat.le_of_ble_eq_true rfl) ?_
          refine q_goto (pc := 75) (tgt := 12) dX6_takeNumber_75 (by decide) ?_
          have hz : isd tp tl (s.2 + k) := ⟨by omega, by omega, by omega⟩
          have q := ih (k + 1) (by push_cast; omega) (fun j hj => by
            by_cases c : j = k
            · rw [c]; exact hz
            · exact hd j (by omega))
          rw [show s.2 + ((k + 1 : Nat) : Int) = s.2 + k + 1 by push_cast; omega] at q
          first
          | (rw [show nv tp s.2 ((k + 1 : Nat) : Int) = nv tp s.2 k by rw [nv_2 (by push_cast; omega), nv_2 (by omega)]] at q
             exact q_locs _ [0, 1, 2, 3, 4, 5, 6] rfl q)
          | (rw [show nv tp s.2 ((k + 1 : Nat) : Int) = nv tp s.2 k * 10 + σ 14 (s.2 + k) - 48 by
               rw [tb]
               rcases (show k = 0 ∨ k = 1 by omega) with y | y
               · subst y
                 rw [show ((0 + 1 : Nat) : Int) = 1 from rfl, show ((0 : Nat) : Int) = 0 from rfl, nv_1, nv_0, show s.2 + 0 = s.2 by omega]
                 omega
               · subst y
                 rw [nv_2 (by omega), show ((1 : Nat) : Int) = 1 from rfl, nv_1]] at q
             exact q_locs _ [0, 1, 2, 3, 4, 5, 6] rfl q)
theorem x_num {lo hi c : Int} (hT : TP σ tp tl s) (hK : TK tp tl) (h0 : s.1 = 0) (hi' : sIn tl s) (hc : 0 ≤ c ∧ c ≤ 255) (hlo : 0 ≤ lo ∧ lo ≤ 100) (hhi : 0 ≤ hi ∧ hi ≤ 100) : qE G mX6_takeNumber (d + 2) 0 [(0, vr 13), (1, vi lo), (2, vi hi), (3, vi c)] [] σ (ri fun r σ1 => nvS tp tl s = r ∧ Fr σ σ1 [13] ∧ TP σ1 tp tl (ntS tp tl lo hi c s)) := by
  obtain ⟨t1, t2, t3, t4⟩ := id hT
  have hi2 := hi'.2
  refine q_iconst (pc := 0) dX6_takeNumber_0 ?_
  refine q_istore (pc := 1) dX6_takeNumber_1 (Nat.le_of_ble_eq_true rfl) ?_
  refine q_iconst (pc := 3) dX6_takeNumber_3 ?_
  refine q_istore (pc := 4) dX6_takeNumber_4 (Nat.le_of_ble_eq_true rfl) ?_
  refine q_aload_n (pc := 6) dX6_takeNumber_6 rfl ?_
  refine q_gI (pc := 7) 2 dX6_takeNumber_7 fX6_19 rfl rfl rfl ?_
  refine q_istore (pc := 10) dX6_takeNumber_10 (Nat.le_of_ble_eq_true rfl) ?_
  have q := x_num_l (G := G) (d := d) hT hK h0 hi' hc hlo hhi (tl - s.2).toNat 0 (by omega) (fun j hj => by omega)
  rw [show s.2 + ((0 : Nat) : Int) = s.2 by omega] at q
  rw [t2]
  exact q_locs _ [0, 1, 2, 3, 4, 5, 6] rfl q
end T6
