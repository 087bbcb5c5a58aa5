/-! ===== rows of the shelf, bytes of the tape, images, kinds: what is to be, and the class ===== -/
def aS (A : qA) (s : Int) : qA := (A.1, A.2.1, s, A.2.2.2)
def aH (A : qA) (s : Int) (sh : (Int → Int) × (Int → Int) × (Int → Int → Int)) : qA := (A.1, A.2.1, s, A.2.2.2.1, sh, A.2.2.2.2.2)
def s_row (A : qA) (r l n : Int) : Int × qA := if (0 ≤ r ∧ r ≤ 7) ∧ (0 ≤ l ∧ l ≤ 2) ∧ n ≤ 40 then (if n < 0 then (-1000014, aS A 4) else (n, aH A 0 (u1 A.2.2.2.2.1.1 r l, u1 A.2.2.2.2.1.2.1 r n, fun r' i => if r' = r then 0 else A.2.2.2.2.1.2.2 r' i))) else (-1000001, A)
def s_set (A : qA) (r i v : Int) : Int × qA := if 0 ≤ r ∧ r ≤ 7 then (if A.2.2.2.2.1.1 r < 0 then (-1000011, aS A 1) else if 0 ≤ i ∧ i < A.2.2.2.2.1.2.1 r then (mNar (A.2.2.2.2.1.1 r) v, aH A 0 (A.2.2.2.2.1.1, A.2.2.2.2.1.2.1, itSet A.2.2.2.2.1.2.2 r i (mNar (A.2.2.2.2.1.1 r) v))) else (-1000012, aS A 2)) else (-1000001, A)
def s_copy (A : qA) (a i b j n : Int) : Int × qA := if (0 ≤ a ∧ a ≤ 7) ∧ (0 ≤ b ∧ b ≤ 7) then (if A.2.2.2.2.1.1 a < 0 ∨ A.2.2.2.2.1.1 b < 0 then (-1000011, aS A 1) else if A.2.2.2.2.1.1 a = A.2.2.2.2.1.1 b then (if 0 ≤ i ∧ 0 ≤ j ∧ 0 ≤ n ∧ i + n ≤ A.2.2.2.2.1.2.1 a ∧ j + n ≤ A.2.2.2.2.1.2.1 b then (n, aH A 0 (A.2.2.2.2.1.1, A.2.2.2.2.1.2.1, itMove A.2.2.2.2.1.2.2 a i b j n)) else (-1000012, aS A 2)) else (-1000015, aS A 5)) else (-1000001, A)
def s_drop (A : qA) (r : Int) : Int × qA := if 0 ≤ r ∧ r ≤ 7 then (if A.2.2.2.2.1.1 r < 0 then (-1000011, aS A 1) else (A.2.2.2.2.1.2.1 r, aH A 0 (u1 A.2.2.2.2.1.1 r (-1), A.2.2.2.2.1.2.1, A.2.2.2.2.1.2.2))) else (-1000001, A)
def s_feed (A : qA) (b : Int) : Int × qA := if 0 ≤ b ∧ b ≤ 255 then (if A.2.2.2.2.2.1.2 = 120 then (-1000003, A) else (A.2.2.2.2.2.1.2 + 1, A.1, A.2.1, A.2.2.1, A.2.2.2.1, A.2.2.2.2.1, (u1 A.2.2.2.2.2.1.1 A.2.2.2.2.2.1.2 b, A.2.2.2.2.2.1.2 + 1), A.2.2.2.2.2.2)) else (-1000001, A)
def s_image (A : qA) (k : Int) : Int × qA := if 0 ≤ k ∧ k ≤ 1 then (if A.1 0 = 1 then (1, A.1, A.2.1, A.2.2.1, A.2.2.2.1, A.2.2.2.2.1, A.2.2.2.2.2.1, (u1 A.2.2.2.2.2.2.1.1 k 1, fun k' => if k' = k then A.1 else A.2.2.2.2.2.2.1.2 k'), A.2.2.2.2.2.2.2) else (-1000002, A)) else (-1000001, A)
def s_restore (A : qA) (k : Int) : Int × qA := if 0 ≤ k ∧ k ≤ 1 then (if A.2.2.2.2.2.2.1.1 k = 1 then (1, A.2.2.2.2.2.2.1.2 k, [], A.2.2) else (-1000002, A)) else (-1000001, A)
abbrev mIs (k c : Int) : Prop := c = 0 ∨ k = c ∨ (c = 1 ∧ k < 4) ∨ (c = 4 ∧ k = 5)
def s_as (A : qA) (i c : Int) : Int × qA := if (0 ≤ i ∧ i < A.1 5) ∧ (0 ≤ c ∧ c ≤ 5) then (if mIs (A.1 (13 + 3 * i)) c then (i, aS A 0) else (-1000013, aS A 3)) else (-1000001, A)
theorem AV.st {A : qA} (h : AV A) {s : Int} (hs : 0 ≤ s ∧ s ≤ 5) : AV (aS A s) := by
  obtain ⟨v1, v2, v3, v4⟩ := h
  exact ⟨v1, v2, hs, v4⟩
theorem AV.sh {A : qA} (h : AV A) {s : Int} {sh : (Int → Int) × (Int → Int) × (Int → Int → Int)} (hs : 0 ≤ s ∧ s ≤ 5) (hv : ShV sh.1 sh.2.1 sh.2.2) : AV (aH A s sh) := by
  obtain ⟨v1, v2, v3, v4, v5, v6⟩ := h
  exact ⟨v1, v2, hs, v4, hv, v6⟩
theorem av_row {A : qA} (h : AV A) (r l n : Int) : AV (s_row A r l n).2 := by
  unfold s_row
  split
  · split
    · exact h.st (by omega)
    · refine h.sh (by omega) (fun q h0 h1 => ?_)
      have v := h.2.2.2.2.1 q h0 h1
      show (-1 ≤ u1 _ r l q ∧ u1 _ r l q ≤ 2) ∧ (0 ≤ u1 _ r n q ∧ u1 _ r n q ≤ 40) ∧ ∀ i, 0 ≤ i → i < u1 _ r n q → -2147483648 ≤ (if q = r then (0 : Int) else A.2.2.2.2.1.2.2 q i) ∧ (if q = r then (0 : Int) else A.2.2.2.2.1.2.2 q i) ≤ 2147483647
      unfold u1
      by_cases c : q = r
      · simp only [if_pos c]
        exact ⟨by omega, by omega, fun _ _ _ => by omega⟩
      · simp only [if_neg c]
        exact v
  · exact h
theorem av_set {A : qA} (h : AV A) (r i v : Int) (hv : -2147483648 ≤ v ∧ v ≤ 2147483647) : AV (s_set A r i v).2 := by
  unfold s_set
  split
  · split
    · exact h.st (by omega)
    · split
      · refine h.sh (by omega) (fun q h0 h1 => ?_)
        have w := h.2.2.2.2.1 q h0 h1
        refine ⟨w.1, w.2.1, fun j a b => ?_⟩
        show -2147483648 ≤ itSet _ r i _ q j ∧ itSet _ r i _ q j ≤ 2147483647
        unfold itSet
        split
        · exact mNar_in hv
        · exact w.2.2 j a b
      · exact h.st (by omega)
  · exact h
theorem av_copy {A : qA} (h : AV A) (a i b j n : Int) : AV (s_copy A a i b j n).2 := by
  unfold s_copy
  split
  · rename_i hab
    split
    · exact h.st (by omega)
    · split
      · split
        · rename_i hq
          refine h.sh (by omega) (fun q h0 h1 => ?_)
          have w := h.2.2.2.2.1 q h0 h1
          refine ⟨w.1, w.2.1, fun k c e => ?_⟩
          show -2147483648 ≤ itMove _ a i b j n q k ∧ itMove _ a i b j n q k ≤ 2147483647
          unfold itMove
          split
          · exact (h.2.2.2.2.1 a hab.1.1 hab.1.2).2.2 _ (by omega) (by omega)
          · exact w.2.2 k c e
        · exact h.st (by omega)
      · exact h.st (by omega)
  · exact h
theorem av_drop {A : qA} (h : AV A) (r : Int) : AV (s_drop A r).2 := by
  unfold s_drop
  split
  · split
    · exact h.st (by omega)
    · refine h.sh (by omega) (fun q h0 h1 => ?_)
      have w := h.2.2.2.2.1 q h0 h1
      refine ⟨?_, w.2⟩
      show -1 ≤ u1 _ r (-1) q ∧ u1 _ r (-1) q ≤ 2
      unfold u1
      split
      · omega
      · exact w.1
  · exact h
theorem av_feed {A : qA} (h : AV A) (b : Int) : AV (s_feed A b).2 := by
  unfold s_feed
  split
  · split
    · exact h
    · obtain ⟨v1, v2, v3, v4, v5, ⟨v6, v6'⟩, v7⟩ := h
      refine ⟨v1, v2, v3, v4, v5, ⟨by show 0 ≤ A.2.2.2.2.2.1.2 + 1 ∧ A.2.2.2.2.2.1.2 + 1 ≤ 120; omega, fun j h0 h1 => ?_⟩, v7⟩
      have h1 : j < A.2.2.2.2.2.1.2 + 1 := h1
      show 0 ≤ u1 _ _ b j ∧ u1 _ _ b j ≤ 255
      unfold u1
      split
      · omega
      · exact v6' j h0 (by omega)
  · exact h
theorem av_image {A : qA} (h : AV A) (k : Int) : AV (s_image A k).2 := by
  unfold s_image
  split
  · split
    · rename_i q0 q1
      obtain ⟨v1, v2, v3, v4, v5, v6, v7, v8⟩ := h
      refine ⟨v1, v2, v3, v4, v5, v6, fun j hj => ?_, v8⟩
      show (u1 _ k 1 j = 0 ∨ u1 _ k 1 j = 1) ∧ (u1 _ k 1 j = 1 → Row (if j = k then A.1 else A.2.2.2.2.2.2.1.2 j) ∧ (if j = k then A.1 else A.2.2.2.2.2.2.1.2 j) 0 = 1)
      unfold u1
      by_cases c : j = k
      · simp only [if_pos c]
        exact ⟨Or.inr trivial, fun _ => ⟨v1, q1⟩⟩
      · simp only [if_neg c]
        exact v7 j hj
    · exact h
  · exact h
theorem av_restore {A : qA} (h : AV A) (k : Int) : AV (s_restore A k).2 := by
  unfold s_restore
  split
  · rename_i q0
    split
    · rename_i q1
      obtain ⟨v1, v2, v3, v4, v5, v6, v7, v8⟩ := h
      exact ⟨((v7 k (by omega)).2 q1).1, ⟨Nat.zero_le _, fun g hg => absurd hg (by simp), fun _ => rfl⟩, v3, v4, v5, v6, v7, v8⟩
    · exact h
  · exact h
theorem av_as {A : qA} (h : AV A) (i c : Int) : AV (s_as A i c).2 := by
  unfold s_as
  split
  · split <;> exact h.st (by omega)
  · exact h
section T7
variable {G : qGl} {d : Nat} {σ : qM} {A : qA}
theorem CR.st (h : CR σ A) {s : Int} : CR (up σ 0 9 s) (aS A s) := by
  have e : ∀ j : Nat, j ≠ 0 → up σ 0 9 s j = σ j := fun j hj => up_ne hj
  have hF : Fr σ (up σ 0 9 s) [0] := Fr.up (by simp)
  have n : ∀ j : Nat, 1 ≤ j → j ∉ [0] := fun j hj => by simp; omega
  obtain ⟨h1, h2, h3, h4, h5, h6, h7, h8⟩ := h
  refine ⟨h1.fr hF (fun j a b => n j (by omega)), h2.fr hF (n _ (by omega)) (n _ (by omega)), ?_, ?_, h5.fr hF (fun j a b => n j (by omega)), ?_, ⟨⟨?_, fun q => (h7.1.2 q).fr hF (fun j a b => n j (by omega))⟩, ?_, fun q => (h7.2.2 q).fr hF (fun j a b => n j (by omega))⟩, ?_⟩
  · rw [up_same, if_pos rfl]; rfl
  · rw [up_same, if_neg (by omega)]; exact h4
  · rw [e 13 (by omega), e 14 (by omega)]; exact h6
  · rw [e 30 (by omega)]; exact h7.1.1
  · rw [e 37 (by omega)]; exact h7.2.1
  · rw [e 80 (by omega), e 81 (by omega)]; exact h8
theorem CR.sh {σ1 : qM} {sh : (Int → Int) × (Int → Int) × (Int → Int → Int)} (h : CR σ A) (hF : Fr σ σ1 [3, 4, 5, 6, 7, 8, 9, 10, 11, 12]) (hs : ShC σ1 sh.1 sh.2.1 sh.2.2) : CR σ1 (aH A A.2.2.1 sh) := by
  have n : ∀ j : Nat, j < 3 ∨ 12 < j → j ∉ [3, 4, 5, 6, 7, 8, 9, 10, 11, 12] := fun j hj => by simp; omega
  have e : ∀ j : Nat, j < 3 ∨ 12 < j → σ1 j = σ j := fun j hj => hF j (n j hj)
  obtain ⟨h1, h2, h3, h4, h5, h6, h7, h8⟩ := h
  refine ⟨h1.fr hF (fun j a b => n j (by omega)), h2.fr hF (n _ (by omega)) (n _ (by omega)), ?_, ?_, hs, ?_, ⟨⟨?_, fun q => (h7.1.2 q).fr hF (fun j a b => n j (by omega))⟩, ?_, fun q => (h7.2.2 q).fr hF (fun j a b => n j (by omega))⟩, ?_⟩
  · rw [e 0 (by omega)]; exact h3
  · rw [e 0 (by omega)]; exact h4
  · rw [e 13 (by omega), e 14 (by omega)]; exact h6
  · rw [e 30 (by omega)]; exact h7.1.1
  · rw [e 37 (by omega)]; exact h7.2.1
  · rw [e 80 (by omega), e 81 (by omega)]; exact h8
theorem CR.sh3 {σ1 : qM} {ln mn : Int → Int} {it : Int → Int → Int} (h : CR σ A) (hF : Fr σ σ1 [3, 4, 5, 6, 7, 8, 9, 10, 11, 12]) (hs : ShC σ1 ln mn it) : CR σ1 (aH A A.2.2.1 (ln, mn, it)) := h.sh (sh := (ln, mn, it)) hF hs
theorem up0_c {s : Int} : ∀ j : Nat, 82 ≤ j → up σ 0 9 s j = σ j := fun j hj => up_ne (by omega)
theorem x_row {r l n : Int} (hC : CR σ A) (hV : AV A) (hr : -2147483648 ≤ r ∧ r ≤ 2147483647) (hl : -2147483648 ≤ l ∧ l ≤ 2147483647) (hn : -2147483648 ≤ n ∧ n ≤ 2147483647) : qE G mX7_row (d + 2) 0 [(0, vr 0), (1, vi r), (2, vi l), (3, vi n)] [] σ (ri (pC σ (s_row A r l n))) := by
  refine q_aload_n (pc := 0) dX7_row_0 rfl ?_
  refine q_getR (pc := 1) dX7_row_1 fX7_10 rfl rfl ?_
  refine q_iload_n (pc := 4) dX7_row_4 rfl ?_
  refine q_V1i (pc := 5) dX7_row_5 vX7_58 rfl rfl (Nat.le_of_ble_eq_true rfl) (Nat.le_of_ble_eq_true rfl) (t_X3_isRow (by omega)) (fun r1 σ1 hc1 => ?_)
  obtain ⟨rfl, rfl⟩ := hc1
  refine q_ifeqb (pc := 8) (tgt := 26) dX7_row_8 (by decide) (fun h8 => ?_) (fun h8 => ?_)
  · refine q_ldc (pc := 26) (n := -1000001) kX7_66 dX7_row_26 ?_
    refine q_ri (pc := 28) dX7_row_28 rfl ?_
    first
    | (refine ⟨A, ?_, fun _ _ => rfl, hC⟩
       first | unfold s_row | unfold s_set | unfold s_copy | unfold s_drop | unfold s_feed | unfold s_image | unfold s_restore | unfold s_as
       repeat' (first | rw [if_neg (by omega)] | rw [if_pos (by omega)] | rw [if_pos (by assumption)] | rw [if_neg (by assumption)])
       done)
    | (refine ⟨_, ?_, up0_c, hC.st⟩
       first | unfold s_row | unfold s_set | unfold s_copy | unfold s_drop | unfold s_feed | unfold s_image | unfold s_restore | unfold s_as
       repeat' (first | rw [if_neg (by omega)] | rw [if_pos (by omega)] | rw [if_pos (by assumption)] | rw [if_neg (by assumption)])
       first | done | rfl)
    | (refine ⟨_, ?_, fun j hj => by rw [up0_c j hj, hF0.c (by decide) j hj], (hC.sh3 hF0 hS0).st⟩
       first | unfold s_row | unfold s_set | unfold s_copy | unfold s_drop | unfold s_feed | unfold s_image | unfold s_restore | unfold s_as
       repeat' (first | rw [if_neg (by omega)] | rw [if_pos (by omega)] | rw [if_pos (by assumption)] | rw [if_neg (by assumption)])
       first | done | rfl)
  · refine q_iload_n (pc := 11) dX7_row_11 rfl ?_
    refine q_iconst (pc := 12) dX7_row_12 ?_
    refine q_iconst (pc := 13) dX7_row_13 ?_
    refine q_S3i (pc := 14) dX7_row_14 vX7_62 (Nat.le_of_ble_eq_true rfl) (Nat.le_of_ble_eq_true rfl) (t_X7_isWithin (by omega) (by omega) (by omega)) (fun r2 σ2 hc2 => ?_)
    obtain ⟨rfl, rfl⟩ := hc2
    refine q_ifeqb (pc := 17) (tgt := 26) dX7_row_17 (by decide) (fun h17 => ?_) (fun h17 => ?_)
    · refine q_ldc (pc := 26) (n := -1000001) kX7_66 dX7_row_26 ?_
      refine q_ri (pc := 28) dX7_row_28 rfl ?_
      first
      | (refine ⟨A, ?_, fun _ _ => rfl, hC⟩
         first | unfold s_row | unfold s_set | unfold s_copy | unfold s_drop | unfold s_feed | unfold s_image | unfold s_restore | unfold s_as
         repeat' (first | rw [if_neg (by omega)] | rw [if_pos (by omega)] | rw [if_pos (by assumption)] | rw [if_neg (by assumption)])
         done)
      | (refine ⟨_, ?_, up0_c, hC.st⟩
         first | unfold s_row | unfold s_set | unfold s_copy | unfold s_drop | unfold s_feed | unfold s_image | unfold s_restore | unfold s_as
         repeat' (first | rw [if_neg (by omega)] | rw [if_pos (by omega)] | rw [if_pos (by assumption)] | rw [if_neg (by assumption)])
         first | done | rfl)
      | (refine ⟨_, ?_, fun j hj => by rw [up0_c j hj, hF0.c (by decide) j hj], (hC.sh3 hF0 hS0).st⟩
         first | unfold s_row | unfold s_set | unfold s_copy | unfold s_drop | unfold s_feed | unfold s_image | unfold s_restore | unfold s_as
         repeat' (first | rw [if_neg (by omega)] | rw [if_pos (by omega)] | rw [if_pos (by assumption)] | rw [if_neg (by assumption)])
         first | done | rfl)
    · refine q_iload_n (pc := 20) dX7_row_20 rfl ?_
      refine q_bipush (pc := 21) dX7_row_21 (by decide +kernel) ?_
      refine q_icmple (pc := 23) (tgt := 29) dX7_row_23 (by decide) (by omega) (by omega) (fun h23 => ?_) (fun h23 => ?_)
      · refine q_iload_n (pc := 29) dX7_row_29 rfl ?_
        refine q_ifge (pc := 30) (tgt := 39) dX7_row_30 (by decide) (by omega) (fun h30 => ?_) (fun h30 => ?_)
        · refine q_aload_n (pc := 39) dX7_row_39 rfl ?_
          refine q_aload_n (pc := 40) dX7_row_40 rfl ?_
          refine q_getR (pc := 41) dX7_row_41 fX7_10 rfl rfl ?_
          refine q_iload_n (pc := 44) dX7_row_44 rfl ?_
          refine q_iload_n (pc := 45) dX7_row_45 rfl ?_
          refine q_iload_n (pc := 46) dX7_row_46 rfl ?_
          refine q_V3i (pc := 47) dX7_row_47 vX7_71 rfl rfl (Nat.le_of_ble_eq_true rfl) (Nat.le_of_ble_eq_true rfl) (t_X3_make hC.2.2.2.2.1 (by omega) (by omega) (by omega)) (fun r3 σ3 hc3 => ?_)
          obtain ⟨rfl, hF3, hS3⟩ := hc3
          refine q_V1i (pc := 50) dX7_row_50 vX7_75 rfl rfl (Nat.le_of_ble_eq_true rfl) (Nat.le_of_ble_eq_true rfl) (t_X7_unfound) (fun r4 σ4 hc4 => ?_)
          obtain ⟨rfl, rfl⟩ := hc4
          refine q_ri (pc := 53) dX7_row_53 rfl ?_
          first
          | (refine ⟨A, ?_, fun _ _ => rfl, hC⟩
             first | unfold s_row | unfold s_set | unfold s_copy | unfold s_drop | unfold s_feed | unfold s_image | unfold s_restore | unfold s_as
             repeat' (first | rw [if_neg (by omega)] | rw [if_pos (by omega)] | rw [if_pos (by assumption)] | rw [if_neg (by assumption)])
             done)
          | (refine ⟨_, ?_, up0_c, hC.st⟩
             first | unfold s_row | unfold s_set | unfold s_copy | unfold s_drop | unfold s_feed | unfold s_image | unfold s_restore | unfold s_as
             repeat' (first | rw [if_neg (by omega)] | rw [if_pos (by omega)] | rw [if_pos (by assumption)] | rw [if_neg (by assumption)])
             first | done | rfl)
          | (refine ⟨_, ?_, fun j hj => by rw [up0_c j hj, hF3.c (by decide) j hj], (hC.sh3 hF3 hS3).st⟩
             first | unfold s_row | unfold s_set | unfold s_copy | unfold s_drop | unfold s_feed | unfold s_image | unfold s_restore | unfold s_as
             repeat' (first | rw [if_neg (by omega)] | rw [if_pos (by omega)] | rw [if_pos (by assumption)] | rw [if_neg (by assumption)])
             first | done | rfl)
        · refine q_aload_n (pc := 33) dX7_row_33 rfl ?_
          refine q_iconst (pc := 34) dX7_row_34 ?_
          refine q_V1i (pc := 35) dX7_row_35 vX7_67 rfl rfl (Nat.le_of_ble_eq_true rfl) (Nat.le_of_ble_eq_true rfl) (t_X7_found) (fun r5 σ5 hc5 => ?_)
          obtain ⟨rfl, rfl⟩ := hc5
          refine q_ri (pc := 38) dX7_row_38 rfl ?_
          first
          | (refine ⟨A, ?_, fun _ _ => rfl, hC⟩
             first | unfold s_row | unfold s_set | unfold s_copy | unfold s_drop | unfold s_feed | unfold s_image | unfold s_restore | unfold s_as
             repeat' (first | rw [if_neg (by omega)] | rw [if_pos (by omega)] | rw [if_pos (by assumption)] | rw [if_neg (by assumption)])
             done)
          | (refine ⟨_, ?_, up0_c, hC.st⟩
             first | unfold s_row | unfold s_set | unfold s_copy | unfold s_drop | unfold s_feed | unfold s_image | unfold s_restore | unfold s_as
             repeat' (first | rw [if_neg (by omega)] | rw [if_pos (by omega)] | rw [if_pos (by assumption)] | rw [if_neg (by assumption)])
             first | done | rfl)
          | (refine ⟨_, ?_, fun j hj => by rw [up0_c j hj, hF0.c (by decide) j hj], (hC.sh3 hF0 hS0).st⟩
             first | unfold s_row | unfold s_set | unfold s_copy | unfold s_drop | unfold s_feed | unfold s_image | unfold s_restore | unfold s_as
             repeat' (first | rw [if_neg (by omega)] | rw [if_pos (by omega)] | rw [if_pos (by assumption)] | rw [if_neg (by assumption)])
             first | done | rfl)
      · refine q_ldc (pc := 26) (n := -1000001) kX7_66 dX7_row_26 ?_
        refine q_ri (pc := 28) dX7_row_28 rfl ?_
        first
        | (refine ⟨A, ?_, fun _ _ => rfl, hC⟩
           first | unfold s_row | unfold s_set | unfold s_copy | unfold s_drop | unfold s_feed | unfold s_image | unfold s_restore | unfold s_as
           repeat' (first | rw [if_neg (by omega)] | rw [if_pos (by omega)] | rw [if_pos (by assumption)] | rw [if_neg (by assumption)])
           done)
        | (refine ⟨_, ?_, up0_c, hC.st⟩
           first | unfold s_row | unfold s_set | unfold s_copy | unfold s_drop | unfold s_feed | unfold s_image | unfold s_restore | unfold s_as
           repeat' (first | rw [if_neg (by omega)] | rw [if_pos (by omega)] | rw [if_pos (by assumption)] | rw [if_neg (by assumption)])
           first | done | rfl)
        | (refine ⟨_, ?_, fun j hj => by rw [up0_c j hj, hF0.c (by decide) j hj], (hC.sh3 hF0 hS0).st⟩
           first | unfold s_row | unfold s_set | unfold s_copy | unfold s_drop | unfold s_feed | unfold s_image | unfold s_restore | unfold s_as
           repeat' (first | rw [if_neg (by omega)] | rw [if_pos (by omega)] | rw [if_pos (by assumption)] | rw [if_neg (by assumption)])
           first | done | rfl)
theorem x_set {r i v : Int} (hC : CR σ A) (hV : AV A) (hr : -2147483648 ≤ r ∧ r ≤ 2147483647) (hi : -2147483648 ≤ i ∧ i ≤ 2147483647) : qE G mX7_set (d + 2) 0 [(0, vr 0), (1, vi r), (2, vi i), (3, vi v)] [] σ (ri (pC σ (s_set A r i v))) := by
  refine q_aload_n (pc := 0) dX7_set_0 rfl ?_
  refine q_getR (pc := 1) dX7_set_1 fX7_10 rfl rfl ?_
  refine q_iload_n (pc := 4) dX7_set_4 rfl ?_
  refine q_V1i (pc := 5) dX7_set_5 vX7_58 rfl rfl (Nat.le_of_ble_eq_true rfl) (Nat.le_of_ble_eq_true rfl) (t_X3_isRow (by omega)) (fun r1 σ1 hc1 => ?_)
  obtain ⟨rfl, rfl⟩ := hc1
  refine q_ifneb (pc := 8) (tgt := 14) dX7_set_8 (by decide) (fun h8 => ?_) (fun h8 => ?_)
  · refine q_aload_n (pc := 14) dX7_set_14 rfl ?_
    refine q_getR (pc := 15) dX7_set_15 fX7_10 rfl rfl ?_
    refine q_iload_n (pc := 18) dX7_set_18 rfl ?_
    refine q_V1i (pc := 19) dX7_set_19 vX7_78 rfl rfl (Nat.le_of_ble_eq_true rfl) (Nat.le_of_ble_eq_true rfl) (t_X3_isMissing hC.2.2.2.2.1 hV.2.2.2.2.1 (by omega)) (fun r2 σ2 hc2 => ?_)
    obtain ⟨rfl, rfl⟩ := hc2
    refine q_ifeqb (pc := 22) (tgt := 31) dX7_set_22 (by decide) (fun h22 => ?_) (fun h22 => ?_)
    · refine q_aload_n (pc := 31) dX7_set_31 rfl ?_
      refine q_getR (pc := 32) dX7_set_32 fX7_10 rfl rfl ?_
      refine q_iload_n (pc := 35) dX7_set_35 rfl ?_
      refine q_iload_n (pc := 36) dX7_set_36 rfl ?_
      refine q_iconst (pc := 37) dX7_set_37 ?_
      refine q_V3i (pc := 38) dX7_set_38 vX7_81 rfl rfl (Nat.le_of_ble_eq_true rfl) (Nat.le_of_ble_eq_true rfl) (t_X3_hasPlaces hC.2.2.2.2.1 hV.2.2.2.2.1 (by omega) (by omega) (by omega)) (fun r3 σ3 hc3 => ?_)
      obtain ⟨rfl, rfl⟩ := hc3
      refine q_ifneb (pc := 41) (tgt := 50) dX7_set_41 (by decide) (fun h41 => ?_) (fun h41 => ?_)
      · refine q_aload_n (pc := 50) dX7_set_50 rfl ?_
        refine q_aload_n (pc := 51) dX7_set_51 rfl ?_
        refine q_getR (pc := 52) dX7_set_52 fX7_10 rfl rfl ?_
        refine q_iload_n (pc := 55) dX7_set_55 rfl ?_
        refine q_iload_n (pc := 56) dX7_set_56 rfl ?_
        refine q_iload_n (pc := 57) dX7_set_57 rfl ?_
        refine q_V3i (pc := 58) dX7_set_58 vX7_84 rfl rfl (Nat.le_of_ble_eq_true rfl) (Nat.le_of_ble_eq_true rfl) (t_X3_put hC.2.2.2.2.1 hV.2.2.2.2.1 (by omega) (by omega)) (fun r4 σ4 hc4 => ?_)
        obtain ⟨rfl, hF4, hS4⟩ := hc4
        refine q_V1i (pc := 61) dX7_set_61 vX7_75 rfl rfl (Nat.le_of_ble_eq_true rfl) (Nat.le_of_ble_eq_true rfl) (t_X7_unfound) (fun r5 σ5 hc5 => ?_)
        obtain ⟨rfl, rfl⟩ := hc5
        refine q_ri (pc := 64) dX7_set_64 rfl ?_
        first
        | (refine ⟨A, ?_, fun _ _ => rfl, hC⟩
           first | unfold s_row | unfold s_set | unfold s_copy | unfold s_drop | unfold s_feed | unfold s_image | unfold s_restore | unfold s_as
           repeat' (first | rw [if_neg (by omega)] | rw [if_pos (by omega)] | rw [if_pos (by assumption)] | rw [if_neg (by assumption)])
           done)
        | (refine ⟨_, ?_, up0_c, hC.st⟩
           first | unfold s_row | unfold s_set | unfold s_copy | unfold s_drop | unfold s_feed | unfold s_image | unfold s_restore | unfold s_as
           repeat' (first | rw [if_neg (by omega)] | rw [if_pos (by omega)] | rw [if_pos (by assumption)] | rw [if_neg (by assumption)])
           first | done | rfl)
        | (refine ⟨_, ?_, fun j hj => by rw [up0_c j hj, hF4.c (by decide) j hj], (hC.sh3 hF4 hS4).st⟩
           first | unfold s_row | unfold s_set | unfold s_copy | unfold s_drop | unfold s_feed | unfold s_image | unfold s_restore | unfold s_as
           repeat' (first | rw [if_neg (by omega)] | rw [if_pos (by omega)] | rw [if_pos (by assumption)] | rw [if_neg (by assumption)])
           first | done | rfl)
      · refine q_aload_n (pc := 44) dX7_set_44 rfl ?_
        refine q_iconst (pc := 45) dX7_set_45 ?_
        refine q_V1i (pc := 46) dX7_set_46 vX7_67 rfl rfl (Nat.le_of_ble_eq_true rfl) (Nat.le_of_ble_eq_true rfl) (t_X7_found) (fun r6 σ6 hc6 => ?_)
        obtain ⟨rfl, rfl⟩ := hc6
        refine q_ri (pc := 49) dX7_set_49 rfl ?_
        first
        | (refine ⟨A, ?_, fun _ _ => rfl, hC⟩
           first | unfold s_row | unfold s_set | unfold s_copy | unfold s_drop | unfold s_feed | unfold s_image | unfold s_restore | unfold s_as
           repeat' (first | rw [if_neg (by omega)] | rw [if_pos (by omega)] | rw [if_pos (by assumption)] | rw [if_neg (by assumption)])
           done)
        | (refine ⟨_, ?_, up0_c, hC.st⟩
           first | unfold s_row | unfold s_set | unfold s_copy | unfold s_drop | unfold s_feed | unfold s_image | unfold s_restore | unfold s_as
           repeat' (first | rw [if_neg (by omega)] | rw [if_pos (by omega)] | rw [if_pos (by assumption)] | rw [if_neg (by assumption)])
           first | done | rfl)
        | (refine ⟨_, ?_, fun j hj => by rw [up0_c j hj, hF0.c (by decide) j hj], (hC.sh3 hF0 hS0).st⟩
           first | unfold s_row | unfold s_set | unfold s_copy | unfold s_drop | unfold s_feed | unfold s_image | unfold s_restore | unfold s_as
           repeat' (first | rw [if_neg (by omega)] | rw [if_pos (by omega)] | rw [if_pos (by assumption)] | rw [if_neg (by assumption)])
           first | done | rfl)
    · refine q_aload_n (pc := 25) dX7_set_25 rfl ?_
      refine q_iconst (pc := 26) dX7_set_26 ?_
      refine q_V1i (pc := 27) dX7_set_27 vX7_67 rfl rfl (Nat.le_of_ble_eq_true rfl) (Nat.le_of_ble_eq_true rfl) (t_X7_found) (fun r7 σ7 hc7 => ?_)
      obtain ⟨rfl, rfl⟩ := hc7
      refine q_ri (pc := 30) dX7_set_30 rfl ?_
      first
      | (refine ⟨A, ?_, fun _ _ => rfl, hC⟩
         first | unfold s_row | unfold s_set | unfold s_copy | unfold s_drop | unfold s_feed | unfold s_image | unfold s_restore | unfold s_as
         repeat' (first | rw [if_neg (by omega)] | rw [if_pos (by omega)] | rw [if_pos (by assumption)] | rw [if_neg (by assumption)])
         done)
      | (refine ⟨_, ?_, up0_c, hC.st⟩
         first | unfold s_row | unfold s_set | unfold s_copy | unfold s_drop | unfold s_feed | unfold s_image | unfold s_restore | unfold s_as
         repeat' (first | rw [if_neg (by omega)] | rw [if_pos (by omega)] | rw [if_pos (by assumption)] | rw [if_neg (by assumption)])
         first | done | rfl)
      | (refine ⟨_, ?_, fun j hj => by rw [up0_c j hj, hF0.c (by decide) j hj], (hC.sh3 hF0 hS0).st⟩
         first | unfold s_row | unfold s_set | unfold s_copy | unfold s_drop | unfold s_feed | unfold s_image | unfold s_restore | unfold s_as
         repeat' (first | rw [if_neg (by omega)] | rw [if_pos (by omega)] | rw [if_pos (by assumption)] | rw [if_neg (by assumption)])
         first | done | rfl)
  · refine q_ldc (pc := 11) (n := -1000001) kX7_66 dX7_set_11 ?_
    refine q_ri (pc := 13) dX7_set_13 rfl ?_
    first
    | (refine ⟨A, ?_, fun _ _ => rfl, hC⟩
       first | unfold s_row | unfold s_set | unfold s_copy | unfold s_drop | unfold s_feed | unfold s_image | unfold s_restore | unfold s_as
       repeat' (first | rw [if_neg (by omega)] | rw [if_pos (by omega)] | rw [if_pos (by assumption)] | rw [if_neg (by assumption)])
       done)
    | (refine ⟨_, ?_, up0_c, hC.st⟩
       first | unfold s_row | unfold s_set | unfold s_copy | unfold s_drop | unfold s_feed | unfold s_image | unfold s_restore | unfold s_as
       repeat' (first | rw [if_neg (by omega)] | rw [if_pos (by omega)] | rw [if_pos (by assumption)] | rw [if_neg (by assumption)])
       first | done | rfl)
    | (refine ⟨_, ?_, fun j hj => by rw [up0_c j hj, hF0.c (by decide) j hj], (hC.sh3 hF0 hS0).st⟩
       first | unfold s_row | unfold s_set | unfold s_copy | unfold s_drop | unfold s_feed | unfold s_image | unfold s_restore | unfold s_as
       repeat' (first | rw [if_neg (by omega)] | rw [if_pos (by omega)] | rw [if_pos (by assumption)] | rw [if_neg (by assumption)])
       first | done | rfl)
theorem x_copy {a i b j n : Int} (hC : CR σ A) (hV : AV A) (ha : -2147483648 ≤ a ∧ a ≤ 2147483647) (hi : -2147483648 ≤ i ∧ i ≤ 2147483647) (hb : -2147483648 ≤ b ∧ b ≤ 2147483647) (hj : -2147483648 ≤ j ∧ j ≤ 2147483647) (hn : -2147483648 ≤ n ∧ n ≤ 2147483647) : qE G mX7_copy (d + 2) 0 [(0, vr 0), (1, vi a), (2, vi i), (3, vi b), (4, vi j), (5, vi n)] [] σ (ri (pC σ (s_copy A a i b j n))) := by
  refine q_aload_n (pc := 0) dX7_copy_0 rfl ?_
  refine q_getR (pc := 1) dX7_copy_1 fX7_10 rfl rfl ?_
  refine q_iload_n (pc := 4) dX7_copy_4 rfl ?_
  refine q_V1i (pc := 5) dX7_copy_5 vX7_58 rfl rfl (Nat.le_of_ble_eq_true rfl) (Nat.le_of_ble_eq_true rfl) (t_X3_isRow (by omega)) (fun r1 σ1 hc1 => ?_)
  obtain ⟨rfl, rfl⟩ := hc1
  refine q_ifeqb (pc := 8) (tgt := 22) dX7_copy_8 (by decide) (fun h8 => ?_) (fun h8 => ?_)
  · refine q_ldc (pc := 22) (n := -1000001) kX7_66 dX7_copy_22 ?_
    refine q_ri (pc := 24) dX7_copy_24 rfl ?_
    first
    | (refine ⟨A, ?_, fun _ _ => rfl, hC⟩
       first | unfold s_row | unfold s_set | unfold s_copy | unfold s_drop | unfold s_feed | unfold s_image | unfold s_restore | unfold s_as
       repeat' (first | rw [if_neg (by omega)] | rw [if_pos (by omega)] | rw [if_pos (by assumption)] | rw [if_neg (by assumption)])
       done)
    | (refine ⟨_, ?_, up0_c, hC.st⟩
       first | unfold s_row | unfold s_set | unfold s_copy | unfold s_drop | unfold s_feed | unfold s_image | unfold s_restore | unfold s_as
       repeat' (first | rw [if_neg (by omega)] | rw [if_pos (by omega)] | rw [if_pos (by assumption)] | rw [if_neg (by assumption)])
       first | done | rfl)
    | (refine ⟨_, ?_, fun j hj => by rw [up0_c j hj, hF0.c (by decide) j hj], (hC.sh3 hF0 hS0).st⟩
       first | unfold s_row | unfold s_set | unfold s_copy | unfold s_drop | unfold s_feed | unfold s_image | unfold s_restore | unfold s_as
       repeat' (first | rw [if_neg (by omega)] | rw [if_pos (by omega)] | rw [if_pos (by assumption)] | rw [if_neg (by assumption)])
       first | done | rfl)
  · refine q_aload_n (pc := 11) dX7_copy_11 rfl ?_
    refine q_getR (pc := 12) dX7_copy_12 fX7_10 rfl rfl ?_
    refine q_iload_n (pc := 15) dX7_copy_15 rfl ?_
    refine q_V1i (pc := 16) dX7_copy_16 vX7_58 rfl rfl (Nat.le_of_ble_eq_true rfl) (Nat.le_of_ble_eq_true rfl) (t_X3_isRow (by omega)) (fun r2 σ2 hc2 => ?_)
    obtain ⟨rfl, rfl⟩ := hc2
    refine q_ifneb (pc := 19) (tgt := 25) dX7_copy_19 (by decide) (fun h19 => ?_) (fun h19 => ?_)
    · refine q_aload_n (pc := 25) dX7_copy_25 rfl ?_
      refine q_getR (pc := 26) dX7_copy_26 fX7_10 rfl rfl ?_
      refine q_iload_n (pc := 29) dX7_copy_29 rfl ?_
      refine q_V1i (pc := 30) dX7_copy_30 vX7_78 rfl rfl (Nat.le_of_ble_eq_true rfl) (Nat.le_of_ble_eq_true rfl) (t_X3_isMissing hC.2.2.2.2.1 hV.2.2.2.2.1 (by omega)) (fun r3 σ3 hc3 => ?_)
      obtain ⟨rfl, rfl⟩ := hc3
      refine q_ifneb (pc := 33) (tgt := 47) dX7_copy_33 (by decide) (fun h33 => ?_) (fun h33 => ?_)
      · refine q_aload_n (pc := 47) dX7_copy_47 rfl ?_
        refine q_iconst (pc := 48) dX7_copy_48 ?_
        refine q_V1i (pc := 49) dX7_copy_49 vX7_67 rfl rfl (Nat.le_of_ble_eq_true rfl) (Nat.le_of_ble_eq_true rfl) (t_X7_found) (fun r4 σ4 hc4 => ?_)
        obtain ⟨rfl, rfl⟩ := hc4
        refine q_ri (pc := 52) dX7_copy_52 rfl ?_
        first
        | (refine ⟨A, ?_, fun _ _ => rfl, hC⟩
           first | unfold s_row | unfold s_set | unfold s_copy | unfold s_drop | unfold s_feed | unfold s_image | unfold s_restore | unfold s_as
           repeat' (first | rw [if_neg (by omega)] | rw [if_pos (by omega)] | rw [if_pos (by assumption)] | rw [if_neg (by assumption)])
           done)
        | (refine ⟨_, ?_, up0_c, hC.st⟩
           first | unfold s_row | unfold s_set | unfold s_copy | unfold s_drop | unfold s_feed | unfold s_image | unfold s_restore | unfold s_as
           repeat' (first | rw [if_neg (by omega)] | rw [if_pos (by omega)] | rw [if_pos (by assumption)] | rw [if_neg (by assumption)])
           first | done | rfl)
        | (refine ⟨_, ?_, fun j hj => by rw [up0_c j hj, hF0.c (by decide) j hj], (hC.sh3 hF0 hS0).st⟩
           first | unfold s_row | unfold s_set | unfold s_copy | unfold s_drop | unfold s_feed | unfold s_image | unfold s_restore | unfold s_as
           repeat' (first | rw [if_neg (by omega)] | rw [if_pos (by omega)] | rw [if_pos (by assumption)] | rw [if_neg (by assumption)])
           first | done | rfl)
      · refine q_aload_n (pc := 36) dX7_copy_36 rfl ?_
        refine q_getR (pc := 37) dX7_copy_37 fX7_10 rfl rfl ?_
        refine q_iload_n (pc := 40) dX7_copy_40 rfl ?_
        refine q_V1i (pc := 41) dX7_copy_41 vX7_78 rfl rfl (Nat.le_of_ble_eq_true rfl) (Nat.le_of_ble_eq_true rfl) (t_X3_isMissing hC.2.2.2.2.1 hV.2.2.2.2.1 (by omega)) (fun r5 σ5 hc5 => ?_)
        obtain ⟨rfl, rfl⟩ := hc5
        refine q_ifeqb (pc := 44) (tgt := 53) dX7_copy_44 (by decide) (fun h44 => ?_) (fun h44 => ?_)
        · refine q_aload_n (pc := 53) dX7_copy_53 rfl ?_
          refine q_getR (pc := 54) dX7_copy_54 fX7_10 rfl rfl ?_
          refine q_iload_n (pc := 57) dX7_copy_57 rfl ?_
          refine q_iload_n (pc := 58) dX7_copy_58 rfl ?_
          refine q_V2i (pc := 59) dX7_copy_59 vX7_87 rfl rfl (Nat.le_of_ble_eq_true rfl) (Nat.le_of_ble_eq_true rfl) (t_X3_haveOneLane hC.2.2.2.2.1 hV.2.2.2.2.1 (by omega) (by omega)) (fun r6 σ6 hc6 => ?_)
          obtain ⟨rfl, rfl⟩ := hc6
          refine q_ifneb (pc := 62) (tgt := 71) dX7_copy_62 (by decide) (fun h62 => ?_) (fun h62 => ?_)
          · refine q_aload_n (pc := 71) dX7_copy_71 rfl ?_
            refine q_getR (pc := 72) dX7_copy_72 fX7_10 rfl rfl ?_
            refine q_iload_n (pc := 75) dX7_copy_75 rfl ?_
            refine q_iload_n (pc := 76) dX7_copy_76 rfl ?_
            refine q_iload (pc := 77) dX7_copy_77 rfl ?_
            refine q_V3i (pc := 79) dX7_copy_79 vX7_81 rfl rfl (Nat.le_of_ble_eq_true rfl) (Nat.le_of_ble_eq_true rfl) (t_X3_hasPlaces hC.2.2.2.2.1 hV.2.2.2.2.1 (by omega) (by omega) (by omega)) (fun r7 σ7 hc7 => ?_)
            obtain ⟨rfl, rfl⟩ := hc7
            refine q_ifeqb (pc := 82) (tgt := 100) dX7_copy_82 (by decide) (fun h82 => ?_) (fun h82 => ?_)
            · refine q_aload_n (pc := 100) dX7_copy_100 rfl ?_
              refine q_iconst (pc := 101) dX7_copy_101 ?_
              refine q_V1i (pc := 102) dX7_copy_102 vX7_67 rfl rfl (Nat.le_of_ble_eq_true rfl) (Nat.le_of_ble_eq_true rfl) (t_X7_found) (fun r8 σ8 hc8 => ?_)
              obtain ⟨rfl, rfl⟩ := hc8
              refine q_ri (pc := 105) dX7_copy_105 rfl ?_
              first
              | (refine ⟨A, ?_, fun _ _ => rfl, hC⟩
                 first | unfold s_row | unfold s_set | unfold s_copy | unfold s_drop | unfold s_feed | unfold s_image | unfold s_restore | unfold s_as
                 repeat' (first | rw [if_neg (by omega)] | rw [if_pos (by omega)] | rw [if_pos (by assumption)] | rw [if_neg (by assumption)])
                 done)
              | (refine ⟨_, ?_, up0_c, hC.st⟩
                 first | unfold s_row | unfold s_set | unfold s_copy | unfold s_drop | unfold s_feed | unfold s_image | unfold s_restore | unfold s_as
                 repeat' (first | rw [if_neg (by omega)] | rw [if_pos (by omega)] | rw [if_pos (by assumption)] | rw [if_neg (by assumption)])
                 first | done | rfl)
              | (refine ⟨_, ?_, fun j hj => by rw [up0_c j hj, hF0.c (by decide) j hj], (hC.sh3 hF0 hS0).st⟩
                 first | unfold s_row | unfold s_set | unfold s_copy | unfold s_drop | unfold s_feed | unfold s_image | unfold s_restore | unfold s_as
                 repeat' (first | rw [if_neg (by omega)] | rw [if_pos (by omega)] | rw [if_pos (by assumption)] | rw [if_neg (by assumption)])
                 first | done | rfl)
            · refine q_aload_n (pc := 85) dX7_copy_85 rfl ?_
              refine q_getR (pc := 86) dX7_copy_86 fX7_10 rfl rfl ?_
              refine q_iload_n (pc := 89) dX7_copy_89 rfl ?_
              refine q_iload (pc := 90) dX7_copy_90 rfl ?_
              refine q_iload (pc := 92) dX7_copy_92 rfl ?_
              refine q_V3i (pc := 94) dX7_copy_94 vX7_81 rfl rfl (Nat.le_of_ble_eq_true rfl) (Nat.le_of_ble_eq_true rfl) (t_X3_hasPlaces hC.2.2.2.2.1 hV.2.2.2.2.1 (by omega) (by omega) (by omega)) (fun r9 σ9 hc9 => ?_)
              obtain ⟨rfl, rfl⟩ := hc9
              refine q_ifneb (pc := 97) (tgt := 106) dX7_copy_97 (by decide) (fun h97 => ?_) (fun h97 => ?_)
              · refine q_aload_n (pc := 106) dX7_copy_106 rfl ?_
                refine q_aload_n (pc := 107) dX7_copy_107 rfl ?_
                refine q_getR (pc := 108) dX7_copy_108 fX7_10 rfl rfl ?_
                refine q_iload_n (pc := 111) dX7_copy_111 rfl ?_
                refine q_iload_n (pc := 112) dX7_copy_112 rfl ?_
                refine q_iload_n (pc := 113) dX7_copy_113 rfl ?_
                refine q_iload (pc := 114) dX7_copy_114 rfl ?_
                refine q_iload (pc := 116) dX7_copy_116 rfl ?_
                refine q_V5i (pc := 118) dX7_copy_118 vX7_91 rfl rfl (Nat.le_of_ble_eq_true rfl) (Nat.le_of_ble_eq_true rfl) (t_X3_move hC.2.2.2.2.1 hV.2.2.2.2.1 (by omega) (by omega) (by omega)) (fun r10 σ10 hc10 => ?_)
                obtain ⟨rfl, hF10, hS10⟩ := hc10
                refine q_V1i (pc := 121) dX7_copy_121 vX7_75 rfl rfl (Nat.le_of_ble_eq_true rfl) (Nat.le_of_ble_eq_true rfl) (t_X7_unfound) (fun r11 σ11 hc11 => ?_)
                obtain ⟨rfl, rfl⟩ := hc11
                refine q_ri (pc := 124) dX7_copy_124 rfl ?_
                first
                | (refine ⟨A, ?_, fun _ _ => rfl, hC⟩
                   first | unfold s_row | unfold s_set | unfold s_copy | unfold s_drop | unfold s_feed | unfold s_image | unfold s_restore | unfold s_as
                   repeat' (first | rw [if_neg (by omega)] | rw [if_pos (by omega)] | rw [if_pos (by assumption)] | rw [if_neg (by assumption)])
                   done)
                | (refine ⟨_, ?_, up0_c, hC.st⟩
                   first | unfold s_row | unfold s_set | unfold s_copy | unfold s_drop | unfold s_feed | unfold s_image | unfold s_restore | unfold s_as
                   repeat' (first | rw [if_neg (by omega)] | rw [if_pos (by omega)] | rw [if_pos (by assumption)] | rw [if_neg (by assumption)])
                   first | done | rfl)
                | (refine ⟨_, ?_, fun j hj => by rw [up0_c j hj, hF10.c (by decide) j hj], (hC.sh3 hF10 hS10).st⟩
                   first | unfold s_row | unfold s_set | unfold s_copy | unfold s_drop | unfold s_feed | unfold s_image | unfold s_restore | unfold s_as
                   repeat' (first | rw [if_neg (by omega)] | rw [if_pos (by omega)] | rw [if_pos (by assumption)] | rw [if_neg (by assumption)])
                   first | done | rfl)
              · refine q_aload_n (pc := 100) dX7_copy_100 rfl ?_
                refine q_iconst (pc := 101) dX7_copy_101 ?_
                refine q_V1i (pc := 102) dX7_copy_102 vX7_67 rfl rfl (Nat.le_of_ble_eq_true rfl) (Nat.le_of_ble_eq_true rfl) (t_X7_found) (fun r12 σ12 hc12 => ?_)
                obtain ⟨rfl, rfl⟩ := hc12
                refine q_ri (pc := 105) dX7_copy_105 rfl ?_
                first
                | (refine ⟨A, ?_, fun _ _ => rfl, hC⟩
                   first | unfold s_row | unfold s_set | unfold s_copy | unfold s_drop | unfold s_feed | unfold s_image | unfold s_restore | unfold s_as
                   repeat' (first | rw [if_neg (by omega)] | rw [if_pos (by omega)] | rw [if_pos (by assumption)] | rw [if_neg (by assumption)])
                   done)
                | (refine ⟨_, ?_, up0_c, hC.st⟩
                   first | unfold s_row | unfold s_set | unfold s_copy | unfold s_drop | unfold s_feed | unfold s_image | unfold s_restore | unfold s_as
                   repeat' (first | rw [if_neg (by omega)] | rw [if_pos (by omega)] | rw [if_pos (by assumption)] | rw [if_neg (by assumption)])
                   first | done | rfl)
                | (refine ⟨_, ?_, fun j hj => by rw [up0_c j hj, hF0.c (by decide) j hj], (hC.sh3 hF0 hS0).st⟩
                   first | unfold s_row | unfold s_set | unfold s_copy | unfold s_drop | unfold s_feed | unfold s_image | unfold s_restore | unfold s_as
                   repeat' (first | rw [if_neg (by omega)] | rw [if_pos (by omega)] | rw [if_pos (by assumption)] | rw [if_neg (by assumption)])
                   first | done | rfl)
          · refine q_aload_n (pc := 65) dX7_copy_65 rfl ?_
            refine q_iconst (pc := 66) dX7_copy_66 ?_
            refine q_V1i (pc := 67) dX7_copy_67 vX7_67 rfl rfl (Nat.le_of_ble_eq_true rfl) (Nat.le_of_ble_eq_true rfl) (t_X7_found) (fun r13 σ13 hc13 => ?_)
            obtain ⟨rfl, rfl⟩ := hc13
            refine q_ri (pc := 70) dX7_copy_70 rfl ?_
            first
            | (refine ⟨A, ?_, fun _ _ => rfl, hC⟩
               first | unfold s_row | unfold s_set | unfold s_copy | unfold s_drop | unfold s_feed | unfold s_image | unfold s_restore | unfold s_as
               repeat' (first | rw [if_neg (by omega)] | rw [if_pos (by omega)] | rw [if_pos (by assumption)] | rw [if_neg (by assumption)])
               done)
            | (refine ⟨_, ?_, up0_c, hC.st⟩
               first | unfold s_row | unfold s_set | unfold s_copy | unfold s_drop | unfold s_feed | unfold s_image | unfold s_restore | unfold s_as
               repeat' (first | rw [if_neg (by omega)] | rw [if_pos (by omega)] | rw [if_pos (by assumption)] | rw [if_neg (by assumption)])
               first | done | rfl)
            | (refine ⟨_, ?_, fun j hj => by rw [up0_c j hj, hF0.c (by decide) j hj], (hC.sh3 hF0 hS0).st⟩
               first | unfold s_row | unfold s_set | unfold s_copy | unfold s_drop | unfold s_feed | unfold s_image | unfold s_restore | unfold s_as
               repeat' (first | rw [if_neg (by omega)] | rw [if_pos (by omega)] | rw [if_pos (by assumption)] | rw [if_neg (by assumption)])
               first | done | rfl)
        · refine q_aload_n (pc := 47) dX7_copy_47 rfl ?_
          refine q_iconst (pc := 48) dX7_copy_48 ?_
          refine q_V1i (pc := 49) dX7_copy_49 vX7_67 rfl rfl (Nat.le_of_ble_eq_true rfl) (Nat.le_of_ble_eq_true rfl) (t_X7_found) (fun r14 σ14 hc14 => ?_)
          obtain ⟨rfl, rfl⟩ := hc14
          refine q_ri (pc := 52) dX7_copy_52 rfl ?_
          first
          | (refine ⟨A, ?_, fun _ _ => rfl, hC⟩
             first | unfold s_row | unfold s_set | unfold s_copy | unfold s_drop | unfold s_feed | unfold s_image | unfold s_restore | unfold s_as
             repeat' (first | rw [if_neg (by omega)] | rw [if_pos (by omega)] | rw [if_pos (by assumption)] | rw [if_neg (by assumption)])
             done)
          | (refine ⟨_, ?_, up0_c, hC.st⟩
             first | unfold s_row | unfold s_set | unfold s_copy | unfold s_drop | unfold s_feed | unfold s_image | unfold s_restore | unfold s_as
             repeat' (first | rw [if_neg (by omega)] | rw [if_pos (by omega)] | rw [if_pos (by assumption)] | rw [if_neg (by assumption)])
             first | done | rfl)
          | (refine ⟨_, ?_, fun j hj => by rw [up0_c j hj, hF0.c (by decide) j hj], (hC.sh3 hF0 hS0).st⟩
             first | unfold s_row | unfold s_set | unfold s_copy | unfold s_drop | unfold s_feed | unfold s_image | unfold s_restore | unfold s_as
             repeat' (first | rw [if_neg (by omega)] | rw [if_pos (by omega)] | rw [if_pos (by assumption)] | rw [if_neg (by assumption)])
             first | done | rfl)
    · refine q_ldc (pc := 22) (n := -1000001) kX7_66 dX7_copy_22 ?_
      refine q_ri (pc := 24) dX7_copy_24 rfl ?_
      first
      | (refine ⟨A, ?_, fun _ _ => rfl, hC⟩
         first | unfold s_row | unfold s_set | unfold s_copy | unfold s_drop | unfold s_feed | unfold s_image | unfold s_restore | unfold s_as
         repeat' (first | rw [if_neg (by omega)] | rw [if_pos (by omega)] | rw [if_pos (by assumption)] | rw [if_neg (by assumption)])
         done)
      | (refine ⟨_, ?_, up0_c, hC.st⟩
         first | unfold s_row | unfold s_set | unfold s_copy | unfold s_drop | unfold s_feed | unfold s_image | unfold s_restore | unfold s_as
         repeat' (first | rw [if_neg (by omega)] | rw [if_pos (by omega)] | rw [if_pos (by assumption)] | rw [if_neg (by assumption)])
         first | done | rfl)
      | (refine ⟨_, ?_, fun j hj => by rw [up0_c j hj, hF0.c (by decide) j hj], (hC.sh3 hF0 hS0).st⟩
         first | unfold s_row | unfold s_set | unfold s_copy | unfold s_drop | unfold s_feed | unfold s_image | unfold s_restore | unfold s_as
         repeat' (first | rw [if_neg (by omega)] | rw [if_pos (by omega)] | rw [if_pos (by assumption)] | rw [if_neg (by assumption)])
         first | done | rfl)
theorem x_drop {r : Int} (hC : CR σ A) (hV : AV A) (hr : -2147483648 ≤ r ∧ r ≤ 2147483647) : qE G mX7_drop (d + 2) 0 [(0, vr 0), (1, vi r)] [] σ (ri (pC σ (s_drop A r))) := by
  refine q_aload_n (pc := 0) dX7_drop_0 rfl ?_
  refine q_getR (pc := 1) dX7_drop_1 fX7_10 rfl rfl ?_
  refine q_iload_n (pc := 4) dX7_drop_4 rfl ?_
  refine q_V1i (pc := 5) dX7_drop_5 vX7_58 rfl rfl (Nat.le_of_ble_eq_true rfl) (Nat.le_of_ble_eq_true rfl) (t_X3_isRow (by omega)) (fun r1 σ1 hc1 => ?_)
  obtain ⟨rfl, rfl⟩ := hc1
  refine q_ifneb (pc := 8) (tgt := 14) dX7_drop_8 (by decide) (fun h8 => ?_) (fun h8 => ?_)
  · refine q_aload_n (pc := 14) dX7_drop_14 rfl ?_
    refine q_getR (pc := 15) dX7_drop_15 fX7_10 rfl rfl ?_
    refine q_iload_n (pc := 18) dX7_drop_18 rfl ?_
    refine q_V1i (pc := 19) dX7_drop_19 vX7_78 rfl rfl (Nat.le_of_ble_eq_true rfl) (Nat.le_of_ble_eq_true rfl) (t_X3_isMissing hC.2.2.2.2.1 hV.2.2.2.2.1 (by omega)) (fun r2 σ2 hc2 => ?_)
    obtain ⟨rfl, rfl⟩ := hc2
    refine q_ifeqb (pc := 22) (tgt := 31) dX7_drop_22 (by decide) (fun h22 => ?_) (fun h22 => ?_)
    · refine q_aload_n (pc := 31) dX7_drop_31 rfl ?_
      refine q_aload_n (pc := 32) dX7_drop_32 rfl ?_
      refine q_getR (pc := 33) dX7_drop_33 fX7_10 rfl rfl ?_
      refine q_iload_n (pc := 36) dX7_drop_36 rfl ?_
      refine q_V1i (pc := 37) dX7_drop_37 vX7_95 rfl rfl (Nat.le_of_ble_eq_true rfl) (Nat.le_of_ble_eq_true rfl) (t_X3_remove hC.2.2.2.2.1 (by omega)) (fun r3 σ3 hc3 => ?_)
      obtain ⟨rfl, hF3, hS3⟩ := hc3
      refine q_V1i (pc := 40) dX7_drop_40 vX7_75 rfl rfl (Nat.le_of_ble_eq_true rfl) (Nat.le_of_ble_eq_true rfl) (t_X7_unfound) (fun r4 σ4 hc4 => ?_)
      obtain ⟨rfl, rfl⟩ := hc4
      refine q_ri (pc := 43) dX7_drop_43 rfl ?_
      first
      | (refine ⟨A, ?_, fun _ _ => rfl, hC⟩
         first | unfold s_row | unfold s_set | unfold s_copy | unfold s_drop | unfold s_feed | unfold s_image | unfold s_restore | unfold s_as
         repeat' (first | rw [if_neg (by omega)] | rw [if_pos (by omega)] | rw [if_pos (by assumption)] | rw [if_neg (by assumption)])
         done)
      | (refine ⟨_, ?_, up0_c, hC.st⟩
         first | unfold s_row | unfold s_set | unfold s_copy | unfold s_drop | unfold s_feed | unfold s_image | unfold s_restore | unfold s_as
         repeat' (first | rw [if_neg (by omega)] | rw [if_pos (by omega)] | rw [if_pos (by assumption)] | rw [if_neg (by assumption)])
         first | done | rfl)
      | (refine ⟨_, ?_, fun j hj => by rw [up0_c j hj, hF3.c (by decide) j hj], (hC.sh3 hF3 hS3).st⟩
         first | unfold s_row | unfold s_set | unfold s_copy | unfold s_drop | unfold s_feed | unfold s_image | unfold s_restore | unfold s_as
         repeat' (first | rw [if_neg (by omega)] | rw [if_pos (by omega)] | rw [if_pos (by assumption)] | rw [if_neg (by assumption)])
         first | done | rfl)
    · refine q_aload_n (pc := 25) dX7_drop_25 rfl ?_
      refine q_iconst (pc := 26) dX7_drop_26 ?_
      refine q_V1i (pc := 27) dX7_drop_27 vX7_67 rfl rfl (Nat.le_of_ble_eq_true rfl) (Nat.le_of_ble_eq_true rfl) (t_X7_found) (fun r5 σ5 hc5 => ?_)
      obtain ⟨rfl, rfl⟩ := hc5
      refine q_ri (pc := 30) dX7_drop_30 rfl ?_
      first
      | (refine ⟨A, ?_, fun _ _ => rfl, hC⟩
         first | unfold s_row | unfold s_set | unfold s_copy | unfold s_drop | unfold s_feed | unfold s_image | unfold s_restore | unfold s_as
         repeat' (first | rw [if_neg (by omega)] | rw [if_pos (by omega)] | rw [if_pos (by assumption)] | rw [if_neg (by assumption)])
         done)
      | (refine ⟨_, ?_, up0_c, hC.st⟩
         first | unfold s_row | unfold s_set | unfold s_copy | unfold s_drop | unfold s_feed | unfold s_image | unfold s_restore | unfold s_as
         repeat' (first | rw [if_neg (by omega)] | rw [if_pos (by omega)] | rw [if_pos (by assumption)] | rw [if_neg (by assumption)])
         first | done | rfl)
      | (refine ⟨_, ?_, fun j hj => by rw [up0_c j hj, hF0.c (by decide) j hj], (hC.sh3 hF0 hS0).st⟩
         first | unfold s_row | unfold s_set | unfold s_copy | unfold s_drop | unfold s_feed | unfold s_image | unfold s_restore | unfold s_as
         repeat' (first | rw [if_neg (by omega)] | rw [if_pos (by omega)] | rw [if_pos (by assumption)] | rw [if_neg (by assumption)])
         first | done | rfl)
  · refine q_ldc (pc := 11) (n := -1000001) kX7_66 dX7_drop_11 ?_
    refine q_ri (pc := 13) dX7_drop_13 rfl ?_
    first
    | (refine ⟨A, ?_, fun _ _ => rfl, hC⟩
       first | unfold s_row | unfold s_set | unfold s_copy | unfold s_drop | unfold s_feed | unfold s_image | unfold s_restore | unfold s_as
       repeat' (first | rw [if_neg (by omega)] | rw [if_pos (by omega)] | rw [if_pos (by assumption)] | rw [if_neg (by assumption)])
       done)
    | (refine ⟨_, ?_, up0_c, hC.st⟩
       first | unfold s_row | unfold s_set | unfold s_copy | unfold s_drop | unfold s_feed | unfold s_image | unfold s_restore | unfold s_as
       repeat' (first | rw [if_neg (by omega)] | rw [if_pos (by omega)] | rw [if_pos (by assumption)] | rw [if_neg (by assumption)])
       first | done | rfl)
    | (refine ⟨_, ?_, fun j hj => by rw [up0_c j hj, hF0.c (by decide) j hj], (hC.sh3 hF0 hS0).st⟩
       first | unfold s_row | unfold s_set | unfold s_copy | unfold s_drop | unfold s_feed | unfold s_image | unfold s_restore | unfold s_as
       repeat' (first | rw [if_neg (by omega)] | rw [if_pos (by omega)] | rw [if_pos (by assumption)] | rw [if_neg (by assumption)])
       first | done | rfl)
theorem t_X6_isFull (h : 0 ≤ σ 13 1 ∧ σ 13 1 ≤ 120) : qE G mX6_isFull d 0 [(0, vr 13)] [] σ (ri fun x σ1 => bi (σ 13 1 = 120) = x ∧ σ = σ1) := by
  refine q_aload_n (pc := 0) dX6_isFull_0 rfl ?_
  refine q_gI (pc := 1) 1 dX6_isFull_1 fX6_15 rfl rfl rfl ?_
  refine q_bipush (pc := 4) dX6_isFull_4 (by decide +kernel) ?_
  refine q_icmplt (pc := 6) (tgt := 13) dX6_isFull_6 (by decide) (by omega) (by omega) (fun h6 => ?_) (fun h6 => ?_)
  · refine q_iconst (pc := 13) dX6_isFull_13 ?_
    refine q_rz (pc := 14) dX6_isFull_14 rfl (by first | exact bi_01 _ | omega) ?_
    refine ⟨?_, rfl⟩
    unfold bi
    split <;> omega
  · refine q_iconst (pc := 9) dX6_isFull_9 ?_
    refine q_goto (pc := 10) (tgt := 14) dX6_isFull_10 (by decide) ?_
    refine q_rz (pc := 14) dX6_isFull_14 rfl (by first | exact bi_01 _ | omega) ?_
    refine ⟨?_, rfl⟩
    unfold bi
    split <;> omega
theorem t_X6_add {b : Int} (h : 0 ≤ σ 13 1 ∧ σ 13 1 < 120) : qE G mX6_add d 0 [(0, vr 13), (1, vi b)] [] σ (ri fun x σ1 => σ 13 1 + 1 = x ∧ up (up σ 13 1 (σ 13 1 + 1)) 14 (σ 13 1) b = σ1) := by
  refine q_aload_n (pc := 0) dX6_add_0 rfl ?_
  refine q_getR (pc := 1) dX6_add_1 fX6_11 rfl rfl ?_
  refine q_aload_n (pc := 4) dX6_add_4 rfl ?_
  refine q_dup (pc := 5) dX6_add_5 rfl ?_
  refine q_gI (pc := 6) 1 dX6_add_6 fX6_15 rfl rfl rfl ?_
  refine q_dup_x1 (pc := 9) dX6_add_9 rfl rfl ?_
  refine q_iconst (pc := 10) dX6_add_10 ?_
  refine q_iadd (pc := 11) dX6_add_11 ?_
  refine q_pI (pc := 12) 1 dX6_add_12 wX6_15 rfl rfl rfl ?_
  refine q_iload_n (pc := 15) dX6_add_15 rfl ?_
  refine q_iast (pc := 16) dX6_add_16 rfl (by omega) ?_
  refine q_aload_n (pc := 17) dX6_add_17 rfl ?_
  refine q_gI (pc := 18) 1 dX6_add_18 fX6_15 rfl rfl rfl ?_
  refine q_ri (pc := 21) dX6_add_21 rfl ?_
  refine ⟨?_, rfl⟩
  rw [up_ne (by omega), up_same, if_pos rfl]
theorem x_feed {b : Int} (hC : CR σ A) (hV : AV A) (hb : -2147483648 ≤ b ∧ b ≤ 2147483647) : qE G mX7_feed (d + 2) 0 [(0, vr 0), (1, vi b)] [] σ (ri (pC σ (s_feed A b))) := by
  have e13 := hC.2.2.2.2.2.1
  have e131 := e13.1
  have v13 := hV.2.2.2.2.2.1.1
  refine q_iload_n (pc := 0) dX7_feed_0 rfl ?_
  refine q_iconst (pc := 1) dX7_feed_1 ?_
  refine q_sipush (pc := 2) dX7_feed_2 (by decide +kernel) ?_
  refine q_S3i (pc := 5) dX7_feed_5 vX7_62 (Nat.le_of_ble_eq_true rfl) (Nat.le_of_ble_eq_true rfl) (t_X7_isWithin (by omega) (by omega) (by omega)) (fun r1 σ1 hc1 => ?_)
  obtain ⟨rfl, rfl⟩ := hc1
  refine q_ifneb (pc := 8) (tgt := 14) dX7_feed_8 (by decide) (fun h8 => ?_) (fun h8 => ?_)
  · refine q_aload_n (pc := 14) dX7_feed_14 rfl ?_
    refine q_getR (pc := 15) dX7_feed_15 fX7_19 rfl rfl ?_
    refine q_V0i (pc := 18) dX7_feed_18 vX7_98 rfl rfl (Nat.le_of_ble_eq_true rfl) (Nat.le_of_ble_eq_true rfl) (t_X6_isFull (by omega)) (fun r2 σ2 hc2 => ?_)
    obtain ⟨rfl, rfl⟩ := hc2
    refine q_ifeqb (pc := 21) (tgt := 27) dX7_feed_21 (by decide) (fun h21 => ?_) (fun h21 => ?_)
    · refine q_aload_n (pc := 27) dX7_feed_27 rfl ?_
      refine q_getR (pc := 28) dX7_feed_28 fX7_19 rfl rfl ?_
      refine q_iload_n (pc := 31) dX7_feed_31 rfl ?_
      refine q_V1i (pc := 32) dX7_feed_32 vX7_103 rfl rfl (Nat.le_of_ble_eq_true rfl) (Nat.le_of_ble_eq_true rfl) (t_X6_add (by omega)) (fun r3 σ3 hc3 => ?_)
      obtain ⟨rfl, rfl⟩ := hc3
      refine q_ri (pc := 35) dX7_feed_35 rfl ?_
      have e : s_feed A b = (A.2.2.2.2.2.1.2 + 1, A.1, A.2.1, A.2.2.1, A.2.2.2.1, A.2.2.2.2.1, (u1 A.2.2.2.2.2.1.1 A.2.2.2.2.2.1.2 b, A.2.2.2.2.2.1.2 + 1), A.2.2.2.2.2.2) := by
        unfold s_feed
        rw [if_pos (by omega), if_neg (by omega)]
      rw [e, e131]
      have n : ∀ j : Nat, j ≠ 13 → j ≠ 14 → j ∉ [13, 14] := fun j h1 h2 => by simp; omega
      have hF : Fr σ (up (up σ 13 1 (A.2.2.2.2.2.1.2 + 1)) 14 A.2.2.2.2.2.1.2 b) [13, 14] := Fr.tt (Fr.up (by simp)) (Fr.up (by simp))
      have ef : ∀ j : Nat, j ≠ 13 → j ≠ 14 → up (up σ 13 1 (A.2.2.2.2.2.1.2 + 1)) 14 A.2.2.2.2.2.1.2 b j = σ j := fun j h1 h2 => hF j (n j h1 h2)
      obtain ⟨h1, h2, h3, h4, h5, h6, h7, h8⟩ := hC
      refine pC.go (fun j hj => hF.c (by decide) j hj) ⟨h1.fr hF (fun j a b => n j (by omega) (by omega)), h2.fr hF (n _ (by omega) (by omega)) (n _ (by omega) (by omega)), ?_, ?_, h5.fr hF (fun j a b => n j (by omega) (by omega)), ⟨?_, ?_⟩, ⟨⟨?_, fun q => (h7.1.2 q).fr hF (fun j a b => n j (by omega) (by omega))⟩, ?_, fun q => (h7.2.2 q).fr hF (fun j a b => n j (by omega) (by omega))⟩, ?_⟩ rfl
      · rw [ef 0 (by omega) (by omega)]; exact h3
      · rw [ef 0 (by omega) (by omega)]; exact h4
      · rw [up_ne (by omega), up_same, if_pos rfl]
      · intro j a b'
        have b2 : j < A.2.2.2.2.2.1.2 + 1 := b'
        rw [up_same, up_ne (by omega)]
        show _ = u1 _ _ b j
        unfold u1
        by_cases c : j = A.2.2.2.2.2.1.2
        · rw [if_pos c, if_pos c]
        · rw [if_neg c, if_neg c]; exact h6.2 j a (by omega)
      · rw [ef 30 (by omega) (by omega)]; exact h7.1.1
      · rw [ef 37 (by omega) (by omega)]; exact h7.2.1
      · rw [ef 80 (by omega) (by omega), ef 81 (by omega) (by omega)]; exact h8
    · refine q_ldc (pc := 24) (n := -1000003) kX7_102 dX7_feed_24 ?_
      refine q_ri (pc := 26) dX7_feed_26 rfl ?_
      first
      | (refine ⟨A, ?_, fun _ _ => rfl, hC⟩
         first | unfold s_row | unfold s_set | unfold s_copy | unfold s_drop | unfold s_feed | unfold s_image | unfold s_restore | unfold s_as
         repeat' (first | rw [if_neg (by omega)] | rw [if_pos (by omega)] | rw [if_pos (by assumption)] | rw [if_neg (by assumption)])
         done)
      | (refine ⟨_, ?_, up0_c, hC.st⟩
         first | unfold s_row | unfold s_set | unfold s_copy | unfold s_drop | unfold s_feed | unfold s_image | unfold s_restore | unfold s_as
         repeat' (first | rw [if_neg (by omega)] | rw [if_pos (by omega)] | rw [if_pos (by assumption)] | rw [if_neg (by assumption)])
         first | done | rfl)
      | (refine ⟨_, ?_, fun j hj => by rw [up0_c j hj, hF0.c (by decide) j hj], (hC.sh3 hF0 hS0).st⟩
         first | unfold s_row | unfold s_set | unfold s_copy | unfold s_drop | unfold s_feed | unfold s_image | unfold s_restore | unfold s_as
         repeat' (first | rw [if_neg (by omega)] | rw [if_pos (by omega)] | rw [if_pos (by assumption)] | rw [if_neg (by assumption)])
         first | done | rfl)
  · refine q_ldc (pc := 11) (n := -1000001) kX7_66 dX7_feed_11 ?_
    refine q_ri (pc := 13) dX7_feed_13 rfl ?_
    first
    | (refine ⟨A, ?_, fun _ _ => rfl, hC⟩
       first | unfold s_row | unfold s_set | unfold s_copy | unfold s_drop | unfold s_feed | unfold s_image | unfold s_restore | unfold s_as
       repeat' (first | rw [if_neg (by omega)] | rw [if_pos (by omega)] | rw [if_pos (by assumption)] | rw [if_neg (by assumption)])
       done)
    | (refine ⟨_, ?_, up0_c, hC.st⟩
       first | unfold s_row | unfold s_set | unfold s_copy | unfold s_drop | unfold s_feed | unfold s_image | unfold s_restore | unfold s_as
       repeat' (first | rw [if_neg (by omega)] | rw [if_pos (by omega)] | rw [if_pos (by assumption)] | rw [if_neg (by assumption)])
       first | done | rfl)
    | (refine ⟨_, ?_, fun j hj => by rw [up0_c j hj, hF0.c (by decide) j hj], (hC.sh3 hF0 hS0).st⟩
       first | unfold s_row | unfold s_set | unfold s_copy | unfold s_drop | unfold s_feed | unfold s_image | unfold s_restore | unfold s_as
       repeat' (first | rw [if_neg (by omega)] | rw [if_pos (by omega)] | rw [if_pos (by assumption)] | rw [if_neg (by assumption)])
       first | done | rfl)
theorem x_image {k : Int} (hC : CR σ A) (hV : AV A) (hk : -2147483648 ≤ k ∧ k ≤ 2147483647) : qE G mX7_image (d + 3) 0 [(0, vr 0), (1, vi k)] [] σ (ri (pC σ (s_image A k))) := by
  have hR := hV.1
  have h01 := hR.f0
  have e0 := hC.1.1.1
  have h7 := hR.de.2
  rcases (show k = 0 ∨ k = 1 ∨ ¬ (0 ≤ k ∧ k ≤ 1) by omega) with rfl | rfl | hk2
  · skip
    refine q_iload_n (pc := 0) dX7_image_0 rfl ?_
    refine q_iconst (pc := 1) dX7_image_1 ?_
    refine q_iconst (pc := 2) dX7_image_2 ?_
    refine q_S3i (pc := 3) dX7_image_3 vX7_62 (Nat.le_of_ble_eq_true rfl) (Nat.le_of_ble_eq_true rfl) (t_X7_isWithin (by omega) (by omega) (by omega)) (fun r1 σ1 hc1 => ?_)
    obtain ⟨rfl, rfl⟩ := hc1
    refine q_ifneb (pc := 6) (tgt := 12) dX7_image_6 (by decide) (fun h6 => ?_) (fun h => absurd h (by first | omega | simp_all))
    refine q_aload_n (pc := 12) dX7_image_12 rfl ?_
    refine q_getR (pc := 13) dX7_image_13 fX7_26 rfl rfl ?_
    refine q_gI (pc := 16) 0 dX7_image_16 fX7_141 rfl rfl rfl ?_
    refine q_ifne (pc := 19) (tgt := 25) dX7_image_19 (by decide) (by omega) (fun h19 => ?_) (fun h19 => ?_)
    · refine q_aload_n (pc := 25) dX7_image_25 rfl ?_
      refine q_getR (pc := 26) dX7_image_26 fX7_33 rfl rfl ?_
      refine q_iload_n (pc := 29) dX7_image_29 rfl ?_
      refine q_aald (pc := 30) dX7_image_30 rfl (by decide) (by omega) rfl ?_
      refine q_aload_n (pc := 31) dX7_image_31 rfl ?_
      refine q_getR (pc := 32) dX7_image_32 fX7_26 rfl rfl ?_
      refine q_V1v (pc := 35) dX7_image_35 vX7_124 rfl rfl (Nat.le_of_ble_eq_true rfl) (Nat.le_of_ble_eq_true rfl) (t_X4_copyFrom_30_15 hC.1 h01 h7) (fun σ2 hc2 => ?_)
      obtain ⟨hF2, hs2⟩ := hc2
      refine q_iconst (pc := 38) dX7_image_38 ?_
      refine q_ri (pc := 39) dX7_image_39 rfl ?_
      have e : s_image A 0 = (1, A.1, A.2.1, A.2.2.1, A.2.2.2.1, A.2.2.2.2.1, A.2.2.2.2.2.1, (u1 A.2.2.2.2.2.2.1.1 0 1, fun k' => if k' = 0 then A.1 else A.2.2.2.2.2.2.1.2 k'), A.2.2.2.2.2.2.2) := by
        unfold s_image
        rw [if_pos (by omega), if_pos (by omega)]
      rw [e]
      have n : ∀ j : Nat, ¬ (30 ≤ j ∧ j ≤ 36) → j ∉ [30, 31, 32, 33, 35, 36] := fun j h1 => by simp; omega
      have ef : ∀ j : Nat, ¬ (30 ≤ j ∧ j ≤ 36) → σ2 j = σ j := fun j h1 => hF2 j (n j h1)
      obtain ⟨h1, h2, h3, h4, h5, h6, h7, h8⟩ := hC
      refine pC.go (fun j hj => hF2.c (by decide) j hj) ⟨h1.fr hF2 (fun j a b => n j (by omega)), h2.fr hF2 (n _ (by omega)) (n _ (by omega)), ?_, ?_, h5.fr hF2 (fun j a b => n j (by omega)), ?_, ⟨⟨?_, fun q => ?_⟩, ?_, fun q => ?_⟩, ?_⟩ rfl
      · rw [ef 0 (by omega)]; exact h3
      · rw [ef 0 (by omega)]; exact h4
      · rw [ef 13 (by omega), ef 14 (by omega)]; exact h6
      · first
        | (rw [ef 30 (by omega)]; exact h7.1.1.trans (u1_ne (f := A.2.2.2.2.2.2.1.1) (i := 0) (v := 1) (j := 0) (by omega)).symm)
        | (rw [hs2.1.1]; show A.1 0 = u1 A.2.2.2.2.2.2.1.1 0 1 0; rw [u1_eq]; omega)
      · first
        | exact hs2
        | exact (h7.1.2 ((u1_ne (f := A.2.2.2.2.2.2.1.1) (i := 0) (v := 1) (j := 0) (by omega)).symm.trans q)).fr hF2 (fun j a b => n j (by omega))
      · first
        | (rw [ef 37 (by omega)]; exact h7.2.1.trans (u1_ne (f := A.2.2.2.2.2.2.1.1) (i := 0) (v := 1) (j := 1) (by omega)).symm)
        | (rw [hs2.1.1]; show A.1 0 = u1 A.2.2.2.2.2.2.1.1 1 1 1; rw [u1_eq]; omega)
      · first
        | exact hs2
        | exact (h7.2.2 ((u1_ne (f := A.2.2.2.2.2.2.1.1) (i := 0) (v := 1) (j := 1) (by omega)).symm.trans q)).fr hF2 (fun j a b => n j (by omega))
      · rw [ef 80 (by omega), ef 81 (by omega)]; exact h8
    · refine q_ldc (pc := 22) (n := -1000002) kX7_137 dX7_image_22 ?_
      refine q_ri (pc := 24) dX7_image_24 rfl ?_
      first
      | (refine ⟨A, ?_, fun _ _ => rfl, hC⟩
         first | unfold s_row | unfold s_set | unfold s_copy | unfold s_drop | unfold s_feed | unfold s_image | unfold s_restore | unfold s_as
         repeat' (first | rw [if_neg (by omega)] | rw [if_pos (by omega)] | rw [if_pos (by assumption)] | rw [if_neg (by assumption)])
         done)
      | (refine ⟨_, ?_, up0_c, hC.st⟩
         first | unfold s_row | unfold s_set | unfold s_copy | unfold s_drop | unfold s_feed | unfold s_image | unfold s_restore | unfold s_as
         repeat' (first | rw [if_neg (by omega)] | rw [if_pos (by omega)] | rw [if_pos (by assumption)] | rw [if_neg (by assumption)])
         first | done | rfl)
      | (refine ⟨_, ?_, fun j hj => by rw [up0_c j hj, hF0.c (by decide) j hj], (hC.sh3 hF0 hS0).st⟩
         first | unfold s_row | unfold s_set | unfold s_copy | unfold s_drop | unfold s_feed | unfold s_image | unfold s_restore | unfold s_as
         repeat' (first | rw [if_neg (by omega)] | rw [if_pos (by omega)] | rw [if_pos (by assumption)] | rw [if_neg (by assumption)])
         first | done | rfl)
  · skip
    refine q_iload_n (pc := 0) dX7_image_0 rfl ?_
    refine q_iconst (pc := 1) dX7_image_1 ?_
    refine q_iconst (pc := 2) dX7_image_2 ?_
    refine q_S3i (pc := 3) dX7_image_3 vX7_62 (Nat.le_of_ble_eq_true rfl) (Nat.le_of_ble_eq_true rfl) (t_X7_isWithin (by omega) (by omega) (by omega)) (fun r1 σ1 hc1 => ?_)
    obtain ⟨rfl, rfl⟩ := hc1
    refine q_ifneb (pc := 6) (tgt := 12) dX7_image_6 (by decide) (fun h6 => ?_) (fun h => absurd h (by first | omega | simp_all))
    refine q_aload_n (pc := 12) dX7_image_12 rfl ?_
    refine q_getR (pc := 13) dX7_image_13 fX7_26 rfl rfl ?_
    refine q_gI (pc := 16) 0 dX7_image_16 fX7_141 rfl rfl rfl ?_
    refine q_ifne (pc := 19) (tgt := 25) dX7_image_19 (by decide) (by omega) (fun h19 => ?_) (fun h19 => ?_)
    · refine q_aload_n (pc := 25) dX7_image_25 rfl ?_
      refine q_getR (pc := 26) dX7_image_26 fX7_33 rfl rfl ?_
      refine q_iload_n (pc := 29) dX7_image_29 rfl ?_
      refine q_aald (pc := 30) dX7_image_30 rfl (by decide) (by omega) rfl ?_
      refine q_aload_n (pc := 31) dX7_image_31 rfl ?_
      refine q_getR (pc := 32) dX7_image_32 fX7_26 rfl rfl ?_
      refine q_V1v (pc := 35) dX7_image_35 vX7_124 rfl rfl (Nat.le_of_ble_eq_true rfl) (Nat.le_of_ble_eq_true rfl) (t_X4_copyFrom_37_15 hC.1 h01 h7) (fun σ2 hc2 => ?_)
      obtain ⟨hF2, hs2⟩ := hc2
      refine q_iconst (pc := 38) dX7_image_38 ?_
      refine q_ri (pc := 39) dX7_image_39 rfl ?_
      have e : s_image A 1 = (1, A.1, A.2.1, A.2.2.1, A.2.2.2.1, A.2.2.2.2.1, A.2.2.2.2.2.1, (u1 A.2.2.2.2.2.2.1.1 1 1, fun k' => if k' = 1 then A.1 else A.2.2.2.2.2.2.1.2 k'), A.2.2.2.2.2.2.2) := by
        unfold s_image
        rw [if_pos (by omega), if_pos (by omega)]
      rw [e]
      have n : ∀ j : Nat, ¬ (37 ≤ j ∧ j ≤ 43) → j ∉ [37, 38, 39, 40, 42, 43] := fun j h1 => by simp; omega
      have ef : ∀ j : Nat, ¬ (37 ≤ j ∧ j ≤ 43) → σ2 j = σ j := fun j h1 => hF2 j (n j h1)
      obtain ⟨h1, h2, h3, h4, h5, h6, h7, h8⟩ := hC
      refine pC.go (fun j hj => hF2.c (by decide) j hj) ⟨h1.fr hF2 (fun j a b => n j (by omega)), h2.fr hF2 (n _ (by omega)) (n _ (by omega)), ?_, ?_, h5.fr hF2 (fun j a b => n j (by omega)), ?_, ⟨⟨?_, fun q => ?_⟩, ?_, fun q => ?_⟩, ?_⟩ rfl
      · rw [ef 0 (by omega)]; exact h3
      · rw [ef 0 (by omega)]; exact h4
      · rw [ef 13 (by omega), ef 14 (by omega)]; exact h6
      · first
        | (rw [ef 30 (by omega)]; exact h7.1.1.trans (u1_ne (f := A.2.2.2.2.2.2.1.1) (i := 1) (v := 1) (j := 0) (by omega)).symm)
        | (rw [hs2.1.1]; show A.1 0 = u1 A.2.2.2.2.2.2.1.1 0 1 0; rw [u1_eq]; omega)
      · first
        | exact hs2
        | exact (h7.1.2 ((u1_ne (f := A.2.2.2.2.2.2.1.1) (i := 1) (v := 1) (j := 0) (by omega)).symm.trans q)).fr hF2 (fun j a b => n j (by omega))
      · first
        | (rw [ef 37 (by omega)]; exact h7.2.1.trans (u1_ne (f := A.2.2.2.2.2.2.1.1) (i := 1) (v := 1) (j := 1) (by omega)).symm)
        | (rw [hs2.1.1]; show A.1 0 = u1 A.2.2.2.2.2.2.1.1 1 1 1; rw [u1_eq]; omega)
      · first
        | exact hs2
        | exact (h7.2.2 ((u1_ne (f := A.2.2.2.2.2.2.1.1) (i := 1) (v := 1) (j := 1) (by omega)).symm.trans q)).fr hF2 (fun j a b => n j (by omega))
      · rw [ef 80 (by omega), ef 81 (by omega)]; exact h8
    · refine q_ldc (pc := 22) (n := -1000002) kX7_137 dX7_image_22 ?_
      refine q_ri (pc := 24) dX7_image_24 rfl ?_
      first
      | (refine ⟨A, ?_, fun _ _ => rfl, hC⟩
         first | unfold s_row | unfold s_set | unfold s_copy | unfold s_drop | unfold s_feed | unfold s_image | unfold s_restore | unfold s_as
         repeat' (first | rw [if_neg (by omega)] | rw [if_pos (by omega)] | rw [if_pos (by assumption)] | rw [if_neg (by assumption)])
         done)
      | (refine ⟨_, ?_, up0_c, hC.st⟩
         first | unfold s_row | unfold s_set | unfold s_copy | unfold s_drop | unfold s_feed | unfold s_image | unfold s_restore | unfold s_as
         repeat' (first | rw [if_neg (by omega)] | rw [if_pos (by omega)] | rw [if_pos (by assumption)] | rw [if_neg (by assumption)])
         first | done | rfl)
      | (refine ⟨_, ?_, fun j hj => by rw [up0_c j hj, hF0.c (by decide) j hj], (hC.sh3 hF0 hS0).st⟩
         first | unfold s_row | unfold s_set | unfold s_copy | unfold s_drop | unfold s_feed | unfold s_image | unfold s_restore | unfold s_as
         repeat' (first | rw [if_neg (by omega)] | rw [if_pos (by omega)] | rw [if_pos (by assumption)] | rw [if_neg (by assumption)])
         first | done | rfl)
  · skip
    refine q_iload_n (pc := 0) dX7_image_0 rfl ?_
    refine q_iconst (pc := 1) dX7_image_1 ?_
    refine q_iconst (pc := 2) dX7_image_2 ?_
    refine q_S3i (pc := 3) dX7_image_3 vX7_62 (Nat.le_of_ble_eq_true rfl) (Nat.le_of_ble_eq_true rfl) (t_X7_isWithin (by omega) (by omega) (by omega)) (fun r1 σ1 hc1 => ?_)
    obtain ⟨rfl, rfl⟩ := hc1
    refine q_ifneb (pc := 6) (tgt := 12) dX7_image_6 (by decide) (fun h => absurd h (by first | omega | simp_all)) (fun h6 => ?_)
    refine q_ldc (pc := 9) (n := -1000001) kX7_66 dX7_image_9 ?_
    refine q_ri (pc := 11) dX7_image_11 rfl ?_
    first
    | (refine ⟨A, ?_, fun _ _ => rfl, hC⟩
       first | unfold s_row | unfold s_set | unfold s_copy | unfold s_drop | unfold s_feed | unfold s_image | unfold s_restore | unfold s_as
       repeat' (first | rw [if_neg (by omega)] | rw [if_pos (by omega)] | rw [if_pos (by assumption)] | rw [if_neg (by assumption)])
       done)
    | (refine ⟨_, ?_, up0_c, hC.st⟩
       first | unfold s_row | unfold s_set | unfold s_copy | unfold s_drop | unfold s_feed | unfold s_image | unfold s_restore | unfold s_as
       repeat' (first | rw [if_neg (by omega)] | rw [if_pos (by omega)] | rw [if_pos (by assumption)] | rw [if_neg (by assumption)])
       first | done | rfl)
    | (refine ⟨_, ?_, fun j hj => by rw [up0_c j hj, hF0.c (by decide) j hj], (hC.sh3 hF0 hS0).st⟩
       first | unfold s_row | unfold s_set | unfold s_copy | unfold s_drop | unfold s_feed | unfold s_image | unfold s_restore | unfold s_as
       repeat' (first | rw [if_neg (by omega)] | rw [if_pos (by omega)] | rw [if_pos (by assumption)] | rw [if_neg (by assumption)])
       first | done | rfl)
theorem x_restore {k : Int} (hC : CR σ A) (hV : AV A) (hk : -2147483648 ≤ k ∧ k ≤ 2147483647) : qE G mX7_restore (d + 3) 0 [(0, vr 0), (1, vi k)] [] σ (ri (pC σ (s_restore A k))) := by
  rcases (show k = 0 ∨ k = 1 ∨ ¬ (0 ≤ k ∧ k ≤ 1) by omega) with rfl | rfl | hk2
  · have e0 := hC.2.2.2.2.2.2.1.1.1
    have v0 := hV.2.2.2.2.2.2.1 0 (by omega)
    refine q_iload_n (pc := 0) dX7_restore_0 rfl ?_
    refine q_iconst (pc := 1) dX7_restore_1 ?_
    refine q_iconst (pc := 2) dX7_restore_2 ?_
    refine q_S3i (pc := 3) dX7_restore_3 vX7_62 (Nat.le_of_ble_eq_true rfl) (Nat.le_of_ble_eq_true rfl) (t_X7_isWithin (by omega) (by omega) (by omega)) (fun r1 σ1 hc1 => ?_)
    obtain ⟨rfl, rfl⟩ := hc1
    refine q_ifneb (pc := 6) (tgt := 12) dX7_restore_6 (by decide) (fun h6 => ?_) (fun h => absurd h (by first | omega | simp_all))
    refine q_aload_n (pc := 12) dX7_restore_12 rfl ?_
    refine q_getR (pc := 13) dX7_restore_13 fX7_33 rfl rfl ?_
    refine q_iload_n (pc := 16) dX7_restore_16 rfl ?_
    refine q_aald (pc := 17) dX7_restore_17 rfl (by decide) (by omega) rfl ?_
    refine q_gI (pc := 18) 0 dX7_restore_18 fX7_141 rfl rfl rfl ?_
    refine q_ifne (pc := 21) (tgt := 27) dX7_restore_21 (by decide) (by omega) (fun h21 => ?_) (fun h21 => ?_)
    · refine q_aload_n (pc := 27) dX7_restore_27 rfl ?_
      refine q_getR (pc := 28) dX7_restore_28 fX7_26 rfl rfl ?_
      refine q_aload_n (pc := 31) dX7_restore_31 rfl ?_
      refine q_getR (pc := 32) dX7_restore_32 fX7_33 rfl rfl ?_
      refine q_iload_n (pc := 35) dX7_restore_35 rfl ?_
      refine q_aald (pc := 36) dX7_restore_36 rfl (by decide) (by omega) rfl ?_
      refine q_V1v (pc := 37) dX7_restore_37 vX7_124 rfl rfl (Nat.le_of_ble_eq_true rfl) (Nat.le_of_ble_eq_true rfl) (t_X4_copyFrom_15_30 (hC.2.2.2.2.2.2.1.1.2 (by omega)) (v0.2 (by omega)).1.f0 (v0.2 (by omega)).1.de.2) (fun σ2 hc2 => ?_)
      obtain ⟨hF2, hs2⟩ := hc2
      refine q_aload_n (pc := 40) dX7_restore_40 rfl ?_
      refine q_getR (pc := 41) dX7_restore_41 fX7_40 rfl rfl ?_
      refine q_V0v (pc := 44) dX7_restore_44 vX7_128 rfl rfl (Nat.le_of_ble_eq_true rfl) (Nat.le_of_ble_eq_true rfl) (t_X0_forget) (fun σ3 hc3 => ?_)
      obtain rfl := hc3
      refine q_iconst (pc := 47) dX7_restore_47 ?_
      refine q_ri (pc := 48) dX7_restore_48 rfl ?_
      have e : s_restore A 0 = (1, A.2.2.2.2.2.2.1.2 0, [], A.2.2) := by
        unfold s_restore
        rw [if_pos (by omega), if_pos (by omega)]
      rw [e]
      have hF : Fr σ (up σ2 44 2 0) [15, 16, 17, 18, 20, 21, 44] := Fr.tr hF2 (Fr.up (S := [44]) (by simp)) (fun j q => by simp at q ⊢; omega)
      refine pC.go (fun j hj => hF.c (by decide) j hj) (hC.site hF (si_in (by decide)) (hs2.fr (S := [44]) (Fr.up (by simp)) (fun j a b => by simp; omega)) ?_) rfl
      have h2 := hC.2.1
      refine ⟨?_, by rw [up_same, if_pos rfl]; rfl, Nat.zero_le _, fun i f hi => absurd hi (by simp)⟩
      rw [up_same, if_neg (by omega), hF2 44 (by simp)]
      exact h2.1
    · refine q_ldc (pc := 24) (n := -1000002) kX7_137 dX7_restore_24 ?_
      refine q_ri (pc := 26) dX7_restore_26 rfl ?_
      first
      | (refine ⟨A, ?_, fun _ _ => rfl, hC⟩
         first | unfold s_row | unfold s_set | unfold s_copy | unfold s_drop | unfold s_feed | unfold s_image | unfold s_restore | unfold s_as
         repeat' (first | rw [if_neg (by omega)] | rw [if_pos (by omega)] | rw [if_pos (by assumption)] | rw [if_neg (by assumption)])
         done)
      | (refine ⟨_, ?_, up0_c, hC.st⟩
         first | unfold s_row | unfold s_set | unfold s_copy | unfold s_drop | unfold s_feed | unfold s_image | unfold s_restore | unfold s_as
         repeat' (first | rw [if_neg (by omega)] | rw [if_pos (by omega)] | rw [if_pos (by assumption)] | rw [if_neg (by assumption)])
         first | done | rfl)
      | (refine ⟨_, ?_, fun j hj => by rw [up0_c j hj, hF0.c (by decide) j hj], (hC.sh3 hF0 hS0).st⟩
         first | unfold s_row | unfold s_set | unfold s_copy | unfold s_drop | unfold s_feed | unfold s_image | unfold s_restore | unfold s_as
         repeat' (first | rw [if_neg (by omega)] | rw [if_pos (by omega)] | rw [if_pos (by assumption)] | rw [if_neg (by assumption)])
         first | done | rfl)
  · have e0 := hC.2.2.2.2.2.2.1.2.1
    have v0 := hV.2.2.2.2.2.2.1 1 (by omega)
    refine q_iload_n (pc := 0) dX7_restore_0 rfl ?_
    refine q_iconst (pc := 1) dX7_restore_1 ?_
    refine q_iconst (pc := 2) dX7_restore_2 ?_
    refine q_S3i (pc := 3) dX7_restore_3 vX7_62 (Nat.le_of_ble_eq_true rfl) (Nat.le_of_ble_eq_true rfl) (t_X7_isWithin (by omega) (by omega) (by omega)) (fun r1 σ1 hc1 => ?_)
    obtain ⟨rfl, rfl⟩ := hc1
    refine q_ifneb (pc := 6) (tgt := 12) dX7_restore_6 (by decide) (fun h6 => ?_) (fun h => absurd h (by first | omega | simp_all))
    refine q_aload_n (pc := 12) dX7_restore_12 rfl ?_
    refine q_getR (pc := 13) dX7_restore_13 fX7_33 rfl rfl ?_
    refine q_iload_n (pc := 16) dX7_restore_16 rfl ?_
    refine q_aald (pc := 17) dX7_restore_17 rfl (by decide) (by omega) rfl ?_
    refine q_gI (pc := 18) 0 dX7_restore_18 fX7_141 rfl rfl rfl ?_
    refine q_ifne (pc := 21) (tgt := 27) dX7_restore_21 (by decide) (by omega) (fun h21 => ?_) (fun h21 => ?_)
    · refine q_aload_n (pc := 27) dX7_restore_27 rfl ?_
      refine q_getR (pc := 28) dX7_restore_28 fX7_26 rfl rfl ?_
      refine q_aload_n (pc := 31) dX7_restore_31 rfl ?_
      refine q_getR (pc := 32) dX7_restore_32 fX7_33 rfl rfl ?_
      refine q_iload_n (pc := 35) dX7_restore_35 rfl ?_
      refine q_aald (pc := 36) dX7_restore_36 rfl (by decide) (by omega) rfl ?_
      refine q_V1v (pc := 37) dX7_restore_37 vX7_124 rfl rfl (Nat.le_of_ble_eq_true rfl) (Nat.le_of_ble_eq_true rfl) (t_X4_copyFrom_15_37 (hC.2.2.2.2.2.2.1.2.2 (by omega)) (v0.2 (by omega)).1.f0 (v0.2 (by omega)).1.de.2) (fun σ2 hc2 => ?_)
      obtain ⟨hF2, hs2⟩ := hc2
      refine q_aload_n (pc := 40) dX7_restore_40 rfl ?_
      refine q_getR (pc := 41) dX7_restore_41 fX7_40 rfl rfl ?_
      refine q_V0v (pc := 44) dX7_restore_44 vX7_128 rfl rfl (Nat.le_of_ble_eq_true rfl) (Nat.le_of_ble_eq_true rfl) (t_X0_forget) (fun σ3 hc3 => ?_)
      obtain rfl := hc3
      refine q_iconst (pc := 47) dX7_restore_47 ?_
      refine q_ri (pc := 48) dX7_restore_48 rfl ?_
      have e : s_restore A 1 = (1, A.2.2.2.2.2.2.1.2 1, [], A.2.2) := by
        unfold s_restore
        rw [if_pos (by omega), if_pos (by omega)]
      rw [e]
      have hF : Fr σ (up σ2 44 2 0) [15, 16, 17, 18, 20, 21, 44] := Fr.tr hF2 (Fr.up (S := [44]) (by simp)) (fun j q => by simp at q ⊢; omega)
      refine pC.go (fun j hj => hF.c (by decide) j hj) (hC.site hF (si_in (by decide)) (hs2.fr (S := [44]) (Fr.up (by simp)) (fun j a b => by simp; omega)) ?_) rfl
      have h2 := hC.2.1
      refine ⟨?_, by rw [up_same, if_pos rfl]; rfl, Nat.zero_le _, fun i f hi => absurd hi (by simp)⟩
      rw [up_same, if_neg (by omega), hF2 44 (by simp)]
      exact h2.1
    · refine q_ldc (pc := 24) (n := -1000002) kX7_137 dX7_restore_24 ?_
      refine q_ri (pc := 26) dX7_restore_26 rfl ?_
      first
      | (refine ⟨A, ?_, fun _ _ => rfl, hC⟩
         first | unfold s_row | unfold s_set | unfold s_copy | unfold s_drop | unfold s_feed | unfold s_image | unfold s_restore | unfold s_as
         repeat' (first | rw [if_neg (by omega)] | rw [if_pos (by omega)] | rw [if_pos (by assumption)] | rw [if_neg (by assumption)])
         done)
      | (refine ⟨_, ?_, up0_c, hC.st⟩
         first | unfold s_row | unfold s_set | unfold s_copy | unfold s_drop | unfold s_feed | unfold s_image | unfold s_restore | unfold s_as
         repeat' (first | rw [if_neg (by omega)] | rw [if_pos (by omega)] | rw [if_pos (by assumption)] | rw [if_neg (by assumption)])
         first | done | rfl)
      | (refine ⟨_, ?_, fun j hj => by rw [up0_c j hj, hF0.c (by decide) j hj], (hC.sh3 hF0 hS0).st⟩
         first | unfold s_row | unfold s_set | unfold s_copy | unfold s_drop | unfold s_feed | unfold s_image | unfold s_restore | unfold s_as
         repeat' (first | rw [if_neg (by omega)] | rw [if_pos (by omega)] | rw [if_pos (by assumption)] | rw [if_neg (by assumption)])
         first | done | rfl)
  · skip
    refine q_iload_n (pc := 0) dX7_restore_0 rfl ?_
    refine q_iconst (pc := 1) dX7_restore_1 ?_
    refine q_iconst (pc := 2) dX7_restore_2 ?_
    refine q_S3i (pc := 3) dX7_restore_3 vX7_62 (Nat.le_of_ble_eq_true rfl) (Nat.le_of_ble_eq_true rfl) (t_X7_isWithin (by omega) (by omega) (by omega)) (fun r1 σ1 hc1 => ?_)
    obtain ⟨rfl, rfl⟩ := hc1
    refine q_ifneb (pc := 6) (tgt := 12) dX7_restore_6 (by decide) (fun h => absurd h (by first | omega | simp_all)) (fun h6 => ?_)
    refine q_ldc (pc := 9) (n := -1000001) kX7_66 dX7_restore_9 ?_
    refine q_ri (pc := 11) dX7_restore_11 rfl ?_
    first
    | (refine ⟨A, ?_, fun _ _ => rfl, hC⟩
       first | unfold s_row | unfold s_set | unfold s_copy | unfold s_drop | unfold s_feed | unfold s_image | unfold s_restore | unfold s_as
       repeat' (first | rw [if_neg (by omega)] | rw [if_pos (by omega)] | rw [if_pos (by assumption)] | rw [if_neg (by assumption)])
       done)
    | (refine ⟨_, ?_, up0_c, hC.st⟩
       first | unfold s_row | unfold s_set | unfold s_copy | unfold s_drop | unfold s_feed | unfold s_image | unfold s_restore | unfold s_as
       repeat' (first | rw [if_neg (by omega)] | rw [if_pos (by omega)] | rw [if_pos (by assumption)] | rw [if_neg (by assumption)])
       first | done | rfl)
    | (refine ⟨_, ?_, fun j hj => by rw [up0_c j hj, hF0.c (by decide) j hj], (hC.sh3 hF0 hS0).st⟩
       first | unfold s_row | unfold s_set | unfold s_copy | unfold s_drop | unfold s_feed | unfold s_image | unfold s_restore | unfold s_as
       repeat' (first | rw [if_neg (by omega)] | rw [if_pos (by omega)] | rw [if_pos (by assumption)] | rw [if_neg (by assumption)])
       first | done | rfl)
theorem qtb_par {k : Int} (h : 0 ≤ k ∧ k ≤ 5) : qtb 0 k = if k = 2 ∨ k = 3 then 1 else if k = 5 then 4 else 0 := by
  rcases (show k = 0 ∨ k = 1 ∨ k = 2 ∨ k = 3 ∨ k = 4 ∨ k = 5 by omega) with rfl | rfl | rfl | rfl | rfl | rfl <;> decide
theorem t_X1_isOne {k c : Int} (hk : 1 ≤ k ∧ k ≤ 5) (hc : 0 ≤ c ∧ c ≤ 5) : qE G mX1_isOne d 0 [(0, vr 80), (1, vi k), (2, vi c)] [] σ (ri fun x σ1 => bi (mIs k c) = x ∧ σ = σ1) := by
  have e1 := qtb_par (k := k) (by omega)
  have h1 : 0 ≤ qtb 0 k ∧ qtb 0 k ≤ 5 := by rw [e1]; split <;> (try split) <;> omega
  have e2 := qtb_par h1
  have h2 : 0 ≤ qtb 0 (qtb 0 k) ∧ qtb 0 (qtb 0 k) ≤ 5 := by rw [e2]; split <;> (try split) <;> omega
  have hq : mIs k c ↔ (k = c ∨ qtb 0 k = c ∨ qtb 0 (qtb 0 k) = c) := by
    rw [e2, e1]
    unfold mIs
    rcases (show k = 1 ∨ k = 2 ∨ k = 3 ∨ k = 4 ∨ k = 5 by omega) with rfl | rfl | rfl | rfl | rfl <;> simp <;> omega
  refine q_iload_n (pc := 0) dX1_isOne_0 rfl ?_
  refine q_iload_n (pc := 1) dX1_isOne_1 rfl ?_
  refine q_icmpeq (pc := 2) (tgt := 27) dX1_isOne_2 (by decide) (by omega) (by omega) (fun h2 => ?_) (fun h2 => ?_)
  · refine q_iconst (pc := 27) dX1_isOne_27 ?_
    refine q_goto (pc := 28) (tgt := 32) dX1_isOne_28 (by decide) ?_
    refine q_rz (pc := 32) dX1_isOne_32 rfl (by first | exact bi_01 _ | omega) ?_
    refine ⟨?_, rfl⟩
    unfold bi
    first
    | rw [if_pos (hq.mpr (by omega))]
    | rw [if_neg (fun q => by have := hq.mp q; omega)]
  · refine q_gets (pc := 5) (i := 0) dX1_isOne_5 (by decide) gX1_13 ?_
    refine q_iload_n (pc := 8) dX1_isOne_8 rfl ?_
    refine q_tald (pc := 9) dX1_isOne_9 (by decide) (by omega) ?_
    refine q_iload_n (pc := 10) dX1_isOne_10 rfl ?_
    refine q_icmpeq (pc := 11) (tgt := 27) dX1_isOne_11 (by decide) (by omega) (by omega) (fun h11 => ?_) (fun h11 => ?_)
    · refine q_iconst (pc := 27) dX1_isOne_27 ?_
      refine q_goto (pc := 28) (tgt := 32) dX1_isOne_28 (by decide) ?_
      refine q_rz (pc := 32) dX1_isOne_32 rfl (by first | exact bi_01 _ | omega) ?_
      refine ⟨?_, rfl⟩
      unfold bi
      first
      | rw [if_pos (hq.mpr (by omega))]
      | rw [if_neg (fun q => by have := hq.mp q; omega)]
    · refine q_gets (pc := 14) (i := 0) dX1_isOne_14 (by decide) gX1_13 ?_
      refine q_gets (pc := 17) (i := 0) dX1_isOne_17 (by decide) gX1_13 ?_
      refine q_iload_n (pc := 20) dX1_isOne_20 rfl ?_
      refine q_tald (pc := 21) dX1_isOne_21 (by decide) (by omega) ?_
      refine q_tald (pc := 22) dX1_isOne_22 (by decide) (by omega) ?_
      refine q_iload_n (pc := 23) dX1_isOne_23 rfl ?_
      refine q_icmpne (pc := 24) (tgt := 31) dX1_isOne_24 (by decide) (by omega) (by omega) (fun h24 => ?_) (fun h24 => ?_)
      · refine q_iconst (pc := 31) dX1_isOne_31 ?_
        refine q_rz (pc := 32) dX1_isOne_32 rfl (by first | exact bi_01 _ | omega) ?_
        refine ⟨?_, rfl⟩
        unfold bi
        first
        | rw [if_pos (hq.mpr (by omega))]
        | rw [if_neg (fun q => by have := hq.mp q; omega)]
      · refine q_iconst (pc := 27) dX1_isOne_27 ?_
        refine q_goto (pc := 28) (tgt := 32) dX1_isOne_28 (by decide) ?_
        refine q_rz (pc := 32) dX1_isOne_32 rfl (by first | exact bi_01 _ | omega) ?_
        refine ⟨?_, rfl⟩
        unfold bi
        first
        | rw [if_pos (hq.mpr (by omega))]
        | rw [if_neg (fun q => by have := hq.mp q; omega)]
theorem x_as {i c : Int} (hC : CR σ A) (hV : AV A) (hi : -2147483648 ≤ i ∧ i ≤ 2147483647) (hc : -2147483648 ≤ c ∧ c ≤ 2147483647) : qE G mX7_as (d + 2) 0 [(0, vr 0), (1, vi i), (2, vi c)] [] σ (ri (pC σ (s_as A i c))) := by
  have hR := hV.1
  have h5 := hR.de
  have hD := hC.1.2.2.2
  refine q_aload_n (pc := 0) dX7_as_0 rfl ?_
  refine q_getR (pc := 1) dX7_as_1 fX7_26 rfl rfl ?_
  refine q_iload_n (pc := 4) dX7_as_4 rfl ?_
  refine q_V1i (pc := 5) dX7_as_5 vX7_164 rfl rfl (Nat.le_of_ble_eq_true rfl) (Nat.le_of_ble_eq_true rfl) (t_X4_hasDeed si15 hC.1 hV.1 (by omega)) (fun r1 σ1 hc1 => ?_)
  obtain ⟨rfl, rfl⟩ := hc1
  refine q_ifeqb (pc := 8) (tgt := 20) dX7_as_8 (by decide) (fun h8 => ?_) (fun h8 => ?_)
  · refine q_ldc (pc := 20) (n := -1000001) kX7_66 dX7_as_20 ?_
    refine q_ri (pc := 22) dX7_as_22 rfl ?_
    first
    | (refine ⟨A, ?_, fun _ _ => rfl, hC⟩
       first | unfold s_row | unfold s_set | unfold s_copy | unfold s_drop | unfold s_feed | unfold s_image | unfold s_restore | unfold s_as
       repeat' (first | rw [if_neg (by omega)] | rw [if_pos (by omega)] | rw [if_pos (by assumption)] | rw [if_neg (by assumption)])
       done)
    | (refine ⟨_, ?_, up0_c, hC.st⟩
       first | unfold s_row | unfold s_set | unfold s_copy | unfold s_drop | unfold s_feed | unfold s_image | unfold s_restore | unfold s_as
       repeat' (first | rw [if_neg (by omega)] | rw [if_pos (by omega)] | rw [if_pos (by assumption)] | rw [if_neg (by assumption)])
       first | done | rfl)
    | (refine ⟨_, ?_, fun j hj => by rw [up0_c j hj, hF0.c (by decide) j hj], (hC.sh3 hF0 hS0).st⟩
       first | unfold s_row | unfold s_set | unfold s_copy | unfold s_drop | unfold s_feed | unfold s_image | unfold s_restore | unfold s_as
       repeat' (first | rw [if_neg (by omega)] | rw [if_pos (by omega)] | rw [if_pos (by assumption)] | rw [if_neg (by assumption)])
       first | done | rfl)
  · refine q_iload_n (pc := 11) dX7_as_11 rfl ?_
    refine q_iconst (pc := 12) dX7_as_12 ?_
    refine q_iconst (pc := 13) dX7_as_13 ?_
    refine q_S3i (pc := 14) dX7_as_14 vX7_62 (Nat.le_of_ble_eq_true rfl) (Nat.le_of_ble_eq_true rfl) (t_X7_isWithin (by omega) (by omega) (by omega)) (fun r2 σ2 hc2 => ?_)
    obtain ⟨rfl, rfl⟩ := hc2
    refine q_ifneb (pc := 17) (tgt := 23) dX7_as_17 (by decide) (fun h17 => ?_) (fun h17 => ?_)
    · have ek : σ 16 i = A.1 (13 + 3 * i) := (hD i (by omega) (by omega)).1
      have hk := (hR.d (i := i) (by omega) (by omega)).1
      rw [← ek] at hk
      refine q_aload_n (pc := 23) dX7_as_23 rfl ?_
      refine q_getR (pc := 24) dX7_as_24 fX7_54 rfl rfl ?_
      refine q_aload_n (pc := 27) dX7_as_27 rfl ?_
      refine q_getR (pc := 28) dX7_as_28 fX7_26 rfl rfl ?_
      refine q_getR (pc := 31) dX7_as_31 fX7_282 rfl rfl ?_
      refine q_iload_n (pc := 34) dX7_as_34 rfl ?_
      refine q_iald (pc := 35) dX7_as_35 rfl (by omega) ?_
      refine q_iload_n (pc := 36) dX7_as_36 rfl ?_
      refine q_V2i (pc := 37) dX7_as_37 vX7_285 rfl rfl (Nat.le_of_ble_eq_true rfl) (Nat.le_of_ble_eq_true rfl) (t_X1_isOne hk (by omega)) (fun r3 σ3 hc3 => ?_)
      obtain ⟨rfl, rfl⟩ := hc3
      refine q_ifneb (pc := 40) (tgt := 49) dX7_as_40 (by decide) (fun h40 => ?_) (fun h40 => ?_)
      · refine q_aload_n (pc := 49) dX7_as_49 rfl ?_
        refine q_iload_n (pc := 50) dX7_as_50 rfl ?_
        refine q_V1i (pc := 51) dX7_as_51 vX7_75 rfl rfl (Nat.le_of_ble_eq_true rfl) (Nat.le_of_ble_eq_true rfl) (t_X7_unfound) (fun r4 σ4 hc4 => ?_)
        obtain ⟨rfl, rfl⟩ := hc4
        refine q_ri (pc := 54) dX7_as_54 rfl ?_
        rw [ek] at h40
        refine ⟨_, ?_, up0_c, hC.st⟩
        unfold s_as
        repeat' (first | rw [if_neg (by omega)] | rw [if_pos (by omega)] | rw [if_pos (by assumption)] | rw [if_neg (by assumption)])
        first | done | rfl
      · refine q_aload_n (pc := 43) dX7_as_43 rfl ?_
        refine q_iconst (pc := 44) dX7_as_44 ?_
        refine q_V1i (pc := 45) dX7_as_45 vX7_67 rfl rfl (Nat.le_of_ble_eq_true rfl) (Nat.le_of_ble_eq_true rfl) (t_X7_found) (fun r5 σ5 hc5 => ?_)
        obtain ⟨rfl, rfl⟩ := hc5
        refine q_ri (pc := 48) dX7_as_48 rfl ?_
        rw [ek] at h40
        refine ⟨_, ?_, up0_c, hC.st⟩
        unfold s_as
        repeat' (first | rw [if_neg (by omega)] | rw [if_pos (by omega)] | rw [if_pos (by assumption)] | rw [if_neg (by assumption)])
        first | done | rfl
    · refine q_ldc (pc := 20) (n := -1000001) kX7_66 dX7_as_20 ?_
      refine q_ri (pc := 22) dX7_as_22 rfl ?_
      first
      | (refine ⟨A, ?_, fun _ _ => rfl, hC⟩
         first | unfold s_row | unfold s_set | unfold s_copy | unfold s_drop | unfold s_feed | unfold s_image | unfold s_restore | unfold s_as
         repeat' (first | rw [if_neg (by omega)] | rw [if_pos (by omega)] | rw [if_pos (by assumption)] | rw [if_neg (by assumption)])
         done)
      | (refine ⟨_, ?_, up0_c, hC.st⟩
         first | unfold s_row | unfold s_set | unfold s_copy | unfold s_drop | unfold s_feed | unfold s_image | unfold s_restore | unfold s_as
         repeat' (first | rw [if_neg (by omega)] | rw [if_pos (by omega)] | rw [if_pos (by assumption)] | rw [if_neg (by assumption)])
         first | done | rfl)
      | (refine ⟨_, ?_, fun j hj => by rw [up0_c j hj, hF0.c (by decide) j hj], (hC.sh3 hF0 hS0).st⟩
         first | unfold s_row | unfold s_set | unfold s_copy | unfold s_drop | unfold s_feed | unfold s_image | unfold s_restore | unfold s_as
         repeat' (first | rw [if_neg (by omega)] | rw [if_pos (by omega)] | rw [if_pos (by assumption)] | rw [if_neg (by assumption)])
         first | done | rfl)
end T7
