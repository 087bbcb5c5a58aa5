/-! ===== the class: deeds of a text ===== -/
def dS1 (tp : Int → Int) (tl : Int) (z : (Int × Int) × (Int → Int)) : (Int × Int) × (Int → Int) := if z.1.2 < tl ∧ kb (tp z.1.2) ≠ 0 then (if z.2 5 = 7 then ((3, z.1.2), z.2) else (deS tp tl z.1, deR tp tl z.1 z.2)) else (((if z.1.2 < tl ∧ tp z.1.2 = 119 ∧ z.2 5 = 0 then 3 else 1), z.1.2), z.2)
theorem dsL_f {tp : Int → Int} {tl : Int} {z : (Int × Int) × (Int → Int)} (h : z.1.1 ≠ 0) : ∀ m, dsL tp tl m z = z
  | 0 => rfl
  | _ + 1 => if_neg h
theorem dsL_s {tp : Int → Int} {tl : Int} {z : (Int × Int) × (Int → Int)} (h : z.1.1 = 0) (he : ¬ (z.1.2 = tl ∧ 0 < z.2 5)) (m : Nat) : dsL tp tl (m + 1) z = dsL tp tl m (dS1 tp tl z) := by
  unfold dS1
  show (if z.1.1 = 0 then _ else z) = _
  rw [if_pos h]
  by_cases c : z.1.2 < tl ∧ kb (tp z.1.2) ≠ 0
  · rw [if_pos c, if_pos c]
    by_cases c2 : z.2 5 = 7
    · rw [if_pos c2, if_pos c2, dsL_f (by simp)]
    · rw [if_neg c2, if_neg c2]
  · rw [if_neg c, if_neg c, if_neg he]
    exact (dsL_f (by simp only; split <;> omega) m).symm
theorem dsL_e {tp : Int → Int} {tl : Int} {z : (Int × Int) × (Int → Int)} (h : z.1.1 = 0) (he : z.1.2 = tl ∧ 0 < z.2 5) (m : Nat) : dsL tp tl (m + 1) z = z := by
  show (if z.1.1 = 0 then _ else z) = _
  rw [if_pos h, if_neg (fun q => by have := q.1; omega), if_pos he]
section T6
variable {G : qGl} {d : Nat} {σ : qM} {tp : Int → Int} {tl : Int} {s : Int × Int} {g : Int → Int}
theorem kb_in (c : Int) : 0 ≤ kb c ∧ kb c ≤ 5 := by
  unfold kb
  repeat' split
  all_goals omega
theorem x_kind {c : Int} (hc : 0 ≤ c ∧ c ≤ 255) : qE G mX6_kindTold d 0 [(0, vi c)] [] σ (ri fun r σ1 => kb c = r ∧ σ = σ1) := by
  refine q_iload_n (pc := 0) dX6_kindTold_0 rfl ?_
  rcases (show c = 100 ∨ c = 111 ∨ c = 115 ∨ c = 116 ∨ c = 117 ∨ (c ≠ 100 ∧ c ≠ 111 ∧ c ≠ 115 ∧ c ≠ 116 ∧ c ≠ 117) by omega) with hs1 | hs1 | hs1 | hs1 | hs1 | hs1
  · refine q_lsw (pc := 1) (off := 51) (tgt := 52) dX6_kindTold_1 (by omega) (by decide) (by show Op.lookupswitch.offset [(100, 51), (111, 53), (115, 55), (116, 59), (117, 57)] 61 _ = _; rw [Op.lookupswitch.offset_cons, if_pos (by omega)]) (by decide) ?_
    refine q_iconst (pc := 52) dX6_kindTold_52 ?_
    refine q_ri (pc := 53) dX6_kindTold_53 rfl ?_
    refine ⟨?_, rfl⟩
    unfold kb
    repeat' (first | rw [if_pos (by omega)] | rw [if_neg (by omega)])
  · refine q_lsw (pc := 1) (off := 53) (tgt := 54) dX6_kindTold_1 (by omega) (by decide) (by show Op.lookupswitch.offset [(100, 51), (111, 53), (115, 55), (116, 59), (117, 57)] 61 _ = _; rw [Op.lookupswitch.offset_cons, if_neg (by omega)]; rw [Op.lookupswitch.offset_cons, if_pos (by omega)]) (by decide) ?_
    refine q_iconst (pc := 54) dX6_kindTold_54 ?_
    refine q_ri (pc := 55) dX6_kindTold_55 rfl ?_
    refine ⟨?_, rfl⟩
    unfold kb
    repeat' (first | rw [if_pos (by omega)] | rw [if_neg (by omega)])
  · refine q_lsw (pc := 1) (off := 55) (tgt := 56) dX6_kindTold_1 (by omega) (by decide) (by show Op.lookupswitch.offset [(100, 51), (111, 53), (115, 55), (116, 59), (117, 57)] 61 _ = _; rw [Op.lookupswitch.offset_cons, if_neg (by omega)]; rw [Op.lookupswitch.offset_cons, if_neg (by omega)]; rw [Op.lookupswitch.offset_cons, if_pos (by omega)]) (by decide) ?_
    refine q_iconst (pc := 56) dX6_kindTold_56 ?_
    refine q_ri (pc := 57) dX6_kindTold_57 rfl ?_
    refine ⟨?_, rfl⟩
    unfold kb
    repeat' (first | rw [if_pos (by omega)] | rw [if_neg (by omega)])
  · refine q_lsw (pc := 1) (off := 59) (tgt := 60) dX6_kindTold_1 (by omega) (by decide) (by show Op.lookupswitch.offset [(100, 51), (111, 53), (115, 55), (116, 59), (117, 57)] 61 _ = _; rw [Op.lookupswitch.offset_cons, if_neg (by omega)]; rw [Op.lookupswitch.offset_cons, if_neg (by omega)]; rw [Op.lookupswitch.offset_cons, if_neg (by omega)]; rw [Op.lookupswitch.offset_cons, if_pos (by omega)]) (by decide) ?_
    refine q_iconst (pc := 60) dX6_kindTold_60 ?_
    refine q_ri (pc := 61) dX6_kindTold_61 rfl ?_
    refine ⟨?_, rfl⟩
    unfold kb
    repeat' (first | rw [if_pos (by omega)] | rw [if_neg (by omega)])
  · refine q_lsw (pc := 1) (off := 57) (tgt := 58) dX6_kindTold_1 (by omega) (by decide) (by show Op.lookupswitch.offset [(100, 51), (111, 53), (115, 55), (116, 59), (117, 57)] 61 _ = _; rw [Op.lookupswitch.offset_cons, if_neg (by omega)]; rw [Op.lookupswitch.offset_cons, if_neg (by omega)]; rw [Op.lookupswitch.offset_cons, if_neg (by omega)]; rw [Op.lookupswitch.offset_cons, if_neg (by omega)]; rw [Op.lookupswitch.offset_cons, if_pos (by omega)]) (by decide) ?_
    refine q_iconst (pc := 58) dX6_kindTold_58 ?_
    refine q_ri (pc := 59) dX6_kindTold_59 rfl ?_
    refine ⟨?_, rfl⟩
    unfold kb
    repeat' (first | rw [if_pos (by omega)] | rw [if_neg (by omega)])
  · refine q_lsw (pc := 1) (off := 61) (tgt := 62) dX6_kindTold_1 (by omega) (by decide) (by show Op.lookupswitch.offset [(100, 51), (111, 53), (115, 55), (116, 59), (117, 57)] 61 _ = _; rw [Op.lookupswitch.offset_cons, if_neg (by omega)]; rw [Op.lookupswitch.offset_cons, if_neg (by omega)]; rw [Op.lookupswitch.offset_cons, if_neg (by omega)]; rw [Op.lookupswitch.offset_cons, if_neg (by omega)]; rw [Op.lookupswitch.offset_cons, if_neg (by omega)]; rfl) (by decide) ?_
    refine q_iconst (pc := 62) dX6_kindTold_62 ?_
    refine q_ri (pc := 63) dX6_kindTold_63 rfl ?_
    refine ⟨?_, rfl⟩
    unfold kb
    repeat' (first | rw [if_pos (by omega)] | rw [if_neg (by omega)])
theorem deS_ok (h : (deS tp tl s).1 = 0) : (0 ≤ nvS tp tl (0, s.2 + 1) ∧ nvS tp tl (0, s.2 + 1) ≤ 2) ∧ (1 ≤ nvS tp tl (ntS tp tl 0 2 44 (0, s.2 + 1)) ∧ nvS tp tl (ntS tp tl 0 2 44 (0, s.2 + 1)) ≤ 20) := by
  have h1 := ntS_ok h
  have h2 := ntS_ok h1.1
  exact ⟨h2.2, h1.2⟩
theorem x_readDeed (hT : TP σ tp tl s) (hK : TK tp tl) (h0 : s.1 = 0) (hI : sIn tl s) (h5 : σ 22 5 = g 5) (hg : 0 ≤ g 5 ∧ g 5 ≤ 7) (hD : DeR σ 22 g) : qE G mX6_readDeed (d + 3) 0 [(0, vr 13), (1, vr 22)] [] σ (ri fun r σ1 => bi ((dS1 tp tl (s, g)).1.1 = 0) = r ∧ Fr σ σ1 [13, 22, 23, 24, 25] ∧ TP σ1 tp tl (dS1 tp tl (s, g)).1 ∧ (∀ i, i ≠ 5 → σ1 22 i = σ 22 i) ∧ ((dS1 tp tl (s, g)).1.1 = 0 → DeR σ1 22 (dS1 tp tl (s, g)).2 ∧ σ1 22 5 = (dS1 tp tl (s, g)).2 5)) := by
  obtain ⟨t1, t2, t3, t4⟩ := id hT
  have hk := hK.1
  have hi2 := hI.2
  have ed : dS1 tp tl (s, g) = if s.2 < tl ∧ kb (tp s.2) ≠ 0 then (if g 5 = 7 then ((3, s.2), g) else (deS tp tl s, deR tp tl s g)) else (((if s.2 < tl ∧ tp s.2 = 119 ∧ g 5 = 0 then 3 else 1), s.2), g) := rfl
  have k0 : kb 0 = 0 := by unfold kb; simp
  sorry
