/-! ===== plan: what is to be ===== -/
def scan (t : Int → Option (List Int)) (ok : Int → Prop) [DecidablePred ok] : Nat → Nat → Option (List Int)
  | 0, _ => none
  | m + 1, i => if ok i then (match t i with
    | some l => some ((i : Int) :: l)
    | none => scan t ok m (i + 1)) else scan t ok m (i + 1)
def mF (n N : Nat) : Nat → (Int → Int) → Option (List Int)
  | 0, g => if mLevel (mHours n g) then some [] else none
  | L + 1, g => scan (fun i => mF n N L (mDo g i)) (fun i => ¬ mDone g i) N 0
abbrev oot (g : Int → Int) (p i : Int) : Prop := 0 ≤ p ∧ i ≤ p ∧ g (13 + 3 * p) ≤ 3 ∧ g (13 + 3 * i) ≤ 3
def mG (n N : Nat) : Nat → Int → (Int → Int) → Option (List Int)
  | 0, _, g => if mLevel (mHours n g) then some [] else none
  | L + 1, p, g => scan (fun i => mG n N L i (mDo g i)) (fun i => ¬ mDone g i ∧ ¬ oot g p i) N 0
/-- a row of deeds that leads to a level night -/
def sol (n : Nat) (N : Int) : (Int → Int) → List Int → Prop
  | g, [] => mLevel (mHours n g)
  | g, i :: l => (0 ≤ i ∧ i < N) ∧ ¬ mDone g i ∧ sol n N (mDo g i) l
def turn (g : Int → Int) : Int → List Int → Prop
  | _, [] => True
  | p, i :: l => ¬ oot g p i ∧ turn g i l
def lxl : List Int → List Int → Prop
  | [], _ => True
  | _ :: _, [] => False
  | i :: l, j :: k => i < j ∨ (i = j ∧ lxl l k)
theorem lxl_eq : ∀ {a b : List Int}, a.length = b.length → lxl a b → lxl b a → a = b
  | [], [], _, _, _ => rfl
  | i :: l, j :: k, h, h1, h2 => by
    have h1 : i < j ∨ (i = j ∧ lxl l k) := h1
    have h2 : j < i ∨ (j = i ∧ lxl k l) := h2
    have e : i = j := by omega
    subst e
    rcases h1 with q | q
    · omega
    · rcases h2 with z | z
      · omega
      · rw [lxl_eq (by simpa using h) q.2 z.2]
theorem lxl_rf : ∀ a : List Int, lxl a a
  | [] => trivial
  | _ :: l => Or.inr ⟨rfl, lxl_rf l⟩
/-- what scan finds -/
theorem scan_none {t : Int → Option (List Int)} {ok : Int → Prop} [DecidablePred ok] : ∀ {m i : Nat}, scan t ok m i = none → ∀ j : Nat, i ≤ j → j < i + m → ok j → t j = none
  | 0, i, _, j, h1, h2, _ => by omega
  | m + 1, i, h, j, h1, h2, hj => by
    unfold scan at h
    by_cases c : ok i
    · rw [if_pos c] at h
      cases e : t i with
      | some l => rw [e] at h; exact absurd h (by simp)
      | none =>
        rw [e] at h
        by_cases z : j = i
        · rw [z]; exact e
        · exact scan_none h j (by omega) (by omega) hj
    · rw [if_neg c] at h
      by_cases z : j = i
      · exact absurd (z ▸ hj) c
      · exact scan_none h j (by omega) (by omega) hj
theorem scan_some {t : Int → Option (List Int)} {ok : Int → Prop} [DecidablePred ok] : ∀ {m i : Nat} {r : List Int}, scan t ok m i = some r → ∃ (j : Nat) (l : List Int), r = (j : Int) :: l ∧ i ≤ j ∧ j < i + m ∧ ok j ∧ t j = some l ∧ ∀ k : Nat, i ≤ k → k < j → ok k → t k = none
  | 0, i, r, h => by exact absurd h (by simp [scan])
  | m + 1, i, r, h => by
    unfold scan at h
    by_cases c : ok i
    · rw [if_pos c] at h
      cases e : t i with
      | some l =>
        rw [e] at h
        have h : some ((i : Int) :: l) = some r := h
        exact ⟨i, l, by simpa using h.symm, by omega, by omega, c, e, fun k a b => by omega⟩
      | none =>
        rw [e] at h
        obtain ⟨j, l, h1, h2, h3, h4, h5, h6⟩ := scan_some h
        refine ⟨j, l, h1, by omega, by omega, h4, h5, fun k a b hk => ?_⟩
        by_cases z : k = i
        · rw [z]; exact e
        · exact h6 k (by omega) b hk
    · rw [if_neg c] at h
      obtain ⟨j, l, h1, h2, h3, h4, h5, h6⟩ := scan_some h
      refine ⟨j, l, h1, by omega, by omega, h4, h5, fun k a b hk => ?_⟩
      by_cases z : k = i
      · exact absurd (z ▸ hk) c
      · exact h6 k (by omega) b hk
theorem mF_spec {n N : Nat} : ∀ (L : Nat) (g : Int → Int), (mF n N L g = none → ∀ l : List Int, l.length = L → ¬ sol n N g l) ∧ (∀ r, mF n N L g = some r → r.length = L ∧ sol n N g r ∧ ∀ l : List Int, l.length = L → sol n N g l → lxl r l)
  | 0, g => by
    constructor
    · intro h l hl hs
      have : l = [] := List.length_eq_zero_iff.mp hl
      subst this
      unfold mF at h
      rw [if_pos (show mLevel (mHours n g) from hs)] at h
      exact absurd h (by simp)
    · intro r h
      unfold mF at h
      by_cases c : mLevel (mHours n g)
      · rw [if_pos c] at h
        have : r = [] := by simpa using h.symm
        subst this
        exact ⟨rfl, c, fun l _ _ => trivial⟩
      · rw [if_neg c] at h
        exact absurd h (by simp)
  | L + 1, g => by
    have ih := fun i : Nat => mF_spec (n := n) (N := N) L (mDo g i)
    constructor
    · intro h l hl hs
      cases l with
      | nil => simp at hl
      | cons i l =>
        obtain ⟨h1, h2, h3⟩ := hs
        have q := scan_none (show scan _ _ N 0 = none from h) i.toNat (by omega) (by omega) (by rw [show ((i.toNat : Nat) : Int) = i by omega]; exact h2)
        have z := (ih i.toNat).1 q l (by simpa using hl)
        rw [show ((i.toNat : Nat) : Int) = i by omega] at z
        exact z h3
    · intro r h
      obtain ⟨j, l, h1, h2, h3, h4, h5, h6⟩ := scan_some (show scan _ _ N 0 = some r from h)
      obtain ⟨q1, q2, q3⟩ := (ih j).2 l h5
      subst h1
      refine ⟨by simp [q1], ⟨by omega, h4, q2⟩, fun m hm hs => ?_⟩
      cases m with
      | nil => simp at hm
      | cons i m =>
        obtain ⟨z1, z2, z3⟩ := hs
        show (j : Int) < i ∨ ((j : Int) = i ∧ lxl l m)
        by_cases c : (j : Int) < i
        · exact Or.inl c
        · by_cases c2 : (j : Int) = i
          · subst c2
            exact Or.inr ⟨rfl, q3 m (by simpa using hm) z3⟩
          · exfalso
            have y := h6 i.toNat (by omega) (by omega) (by rw [show ((i.toNat : Nat) : Int) = i by omega]; exact z2)
            have x := (ih i.toNat).1 y m (by simpa using hm)
            rw [show ((i.toNat : Nat) : Int) = i by omega] at x
            exact x z3
theorem mG_spec {n N : Nat} {f : Int → Int} : ∀ (L : Nat) (p : Int) (g : Int → Int), (∀ k, 13 ≤ k → g k = f k) → (∀ (h : Int → Int) (i : Int), (∀ k, 13 ≤ k → h k = f k) → 0 ≤ i → i < N → ∀ k, 13 ≤ k → mDo h i k = f k) → (mG n N L p g = none → ∀ l : List Int, l.length = L → sol n N g l → ¬ turn f p l) ∧ (∀ r, mG n N L p g = some r → r.length = L ∧ sol n N g r ∧ turn f p r ∧ ∀ l : List Int, l.length = L → sol n N g l → turn f p l → lxl r l)
  | 0, p, g, _, _ => by
    constructor
    · intro h l hl hs
      have : l = [] := List.length_eq_zero_iff.mp hl
      subst this
      unfold mG at h
      rw [if_pos (show mLevel (mHours n g) from hs)] at h
      exact absurd h (by simp)
    · intro r h
      unfold mG at h
      by_cases c : mLevel (mHours n g)
      · rw [if_pos c] at h
        have : r = [] := by simpa using h.symm
        subst this
        exact ⟨rfl, c, trivial, fun l _ _ _ => trivial⟩
      · rw [if_neg c] at h
        exact absurd h (by simp)
  | L + 1, p, g, hg, hk => by
    have ih := fun (i : Nat) (hi : i < N) => mG_spec (n := n) (N := N) (f := f) L i (mDo g i) (hk g i hg (by omega) (by omega)) hk
    have eo : ∀ p i : Int, 0 ≤ i → (oot g p i ↔ oot f p i) := by
      intro p i hi
      constructor
      · intro z
        have z1 := hg (13 + 3 * p) (by omega)
        have z2 := hg (13 + 3 * i) (by omega)
        exact ⟨z.1, z.2.1, by omega, by omega⟩
      · intro z
        have z1 := hg (13 + 3 * p) (by omega)
        have z2 := hg (13 + 3 * i) (by omega)
        exact ⟨z.1, z.2.1, by omega, by omega⟩
    constructor
    · intro h l hl hs ht
      cases l with
      | nil => simp at hl
      | cons i l =>
        obtain ⟨h1, h2, h3⟩ := hs
        obtain ⟨t1, t2⟩ := ht
        have ei : ((i.toNat : Nat) : Int) = i := by omega
        have q := scan_none (show scan _ _ N 0 = none from h) i.toNat (by omega) (by omega) (by rw [ei]; exact ⟨h2, fun z => t1 ((eo p i (by omega)).mp z)⟩)
        have z := (ih i.toNat (by omega)).1 q l (by simpa using hl)
        rw [ei] at z
        exact z h3 t2
    · intro r h
      obtain ⟨j, l, h1, h2, h3, h4, h5, h6⟩ := scan_some (show scan _ _ N 0 = some r from h)
      obtain ⟨q1, q2, q3, q4⟩ := (ih j (by omega)).2 l h5
      subst h1
      refine ⟨by simp [q1], ⟨by omega, h4.1, q2⟩, ⟨fun z => h4.2 ((eo p j (by omega)).mpr z), q3⟩, fun m hm hs ht => ?_⟩
      cases m with
      | nil => simp at hm
      | cons i m =>
        obtain ⟨z1, z2, z3⟩ := hs
        obtain ⟨t1, t2⟩ := ht
        show (j : Int) < i ∨ ((j : Int) = i ∧ lxl l m)
        by_cases c : (j : Int) < i
        · exact Or.inl c
        · by_cases c2 : (j : Int) = i
          · subst c2
            exact Or.inr ⟨rfl, q4 m (by simpa using hm) z3 t2⟩
          · exfalso
            have ei : ((i.toNat : Nat) : Int) = i := by omega
            have y := h6 i.toNat (by omega) (by omega) (by rw [ei]; exact ⟨z2, fun z => t1 ((eo p i (by omega)).mp z)⟩)
            have x := (ih i.toNat (by omega)).1 y m (by simpa using hm)
            rw [ei] at x
            exact x z3 t2

/-! two deeds that only lift come to the same in either order -/
def cS (v : Int) : Int := if v < 9 then v + 1 else v
def lA (g : Int → Int) (a : Int) : Int := if g (13 + 3 * a) = 2 then g (15 + 3 * a) / 2 + 1 else g (15 + 3 * a)
theorem mDo_l {g : Int → Int} (hR : Row g) {a : Int} (h0 : 0 ≤ a) (h1 : a < g 5) (hk : g (13 + 3 * a) ≤ 3) (j : Int) : mDo g a j = if j = 6 then qor (g 6) (qshl 1 a) else if j = 7 + g (14 + 3 * a) then mClamp (g j + lA g a) else if j = 10 + g (14 + 3 * a) ∧ g (13 + 3 * a) = 3 then cS (g j) else g j := by
  have hd := hR.d h0 h1
  unfold mDo
  by_cases c6 : j = 6
  · rw [if_pos c6, c6, u1_eq]
  · rw [if_neg c6, u1_ne c6]
    have hL : ∀ x, mLift g (g (14 + 3 * a)) x j = if j = 7 + g (14 + 3 * a) then mClamp (g j + x) else g j := fun x => by
      unfold mLift u1
      by_cases c : j = 7 + g (14 + 3 * a)
      · rw [if_pos c, if_pos c, ← c]
      · rw [if_neg c, if_neg c]
    unfold mAct lA
    rcases (show g (13 + 3 * a) = 1 ∨ g (13 + 3 * a) = 2 ∨ g (13 + 3 * a) = 3 by omega) with c | c | c
    · rw [if_pos c, if_neg (show ¬ g (13 + 3 * a) = 2 by omega), hL, if_neg (show ¬ (j = 10 + g (14 + 3 * a) ∧ g (13 + 3 * a) = 3) by omega)]
    · rw [if_neg (show ¬ g (13 + 3 * a) = 1 by omega), if_pos c, if_pos c, hL, if_neg (show ¬ (j = 10 + g (14 + 3 * a) ∧ g (13 + 3 * a) = 3) by omega)]
    · rw [if_neg (show ¬ g (13 + 3 * a) = 1 by omega), if_neg (show ¬ g (13 + 3 * a) = 2 by omega), if_pos c, if_neg (show ¬ g (13 + 3 * a) = 2 by omega)]
      unfold mSoft u1 cS
      by_cases c2 : j = 10 + g (14 + 3 * a)
      · rw [if_pos c2, if_neg (show ¬ j = 7 + g (14 + 3 * a) by omega), if_pos (show j = 10 + g (14 + 3 * a) ∧ g (13 + 3 * a) = 3 from ⟨c2, c⟩), ← c2, hL, if_neg (show ¬ j = 7 + g (14 + 3 * a) by omega)]
      · rw [if_neg c2, hL, if_neg (show ¬ (j = 10 + g (14 + 3 * a) ∧ g (13 + 3 * a) = 3) from fun z => c2 z.1)]
theorem qor_2 (d x y : Int) : qor (qor d x) y = qor (qor d y) x := by
  unfold qor
  simp only [Int32.ofInt_toInt]
  rw [Int32.or_assoc, Int32.or_comm (Int32.ofInt x), ← Int32.or_assoc]
theorem clamp_2 {h x y : Int} (hh : 0 ≤ h ∧ h ≤ 99) (hx : 0 ≤ x) (hy : 0 ≤ y) : mClamp (mClamp (h + x) + y) = mClamp (mClamp (h + y) + x) := by
  unfold mClamp
  repeat' split
  all_goals omega
theorem mDo_2 {g : Int → Int} (hR : Row g) {a b : Int} (ha : 0 ≤ a ∧ a < g 5) (hb : 0 ≤ b ∧ b < g 5) (ka : g (13 + 3 * a) ≤ 3) (kb : g (13 + 3 * b) ≤ 3) : mDo (mDo g a) b = mDo (mDo g b) a := by
  have oa := fun {j : Int} (hj : j < 6 ∨ 12 < j) => mDo_o hR ha.1 ha.2 (j := j) hj
  have ob := fun {j : Int} (hj : j < 6 ∨ 12 < j) => mDo_o hR hb.1 hb.2 (j := j) hj
  have da := hR.d ha.1 ha.2
  have db := hR.d hb.1 hb.2
  have la : 0 ≤ lA g a := by unfold lA; split <;> omega
  have lb : 0 ≤ lA g b := by unfold lA; split <;> omega
  have eb : lA (mDo g a) b = lA g b := by unfold lA; rw [oa (by omega), oa (by omega)]
  have ea : lA (mDo g b) a = lA g a := by unfold lA; rw [ob (by omega), ob (by omega)]
  funext j
  rw [mDo_l (mDo_row hR ha.1 ha.2) hb.1 (by rw [oa (by omega)]; exact hb.2) (by rw [oa (by omega)]; exact kb) j, mDo_l (mDo_row hR hb.1 hb.2) ha.1 (by rw [ob (by omega)]; exact ha.2) (by rw [ob (by omega)]; exact ka) j, eb, ea, oa (show 14 + 3 * b < 6 ∨ 12 < 14 + 3 * b by omega), oa (show 13 + 3 * b < 6 ∨ 12 < 13 + 3 * b by omega), ob (show 14 + 3 * a < 6 ∨ 12 < 14 + 3 * a by omega), ob (show 13 + 3 * a < 6 ∨ 12 < 13 + 3 * a by omega), mDo_6, mDo_6, qor_2]
  by_cases c6 : j = 6
  · rw [if_pos c6, if_pos c6]
  · rw [if_neg c6, if_neg c6, mDo_l hR ha.1 ha.2 ka j, mDo_l hR hb.1 hb.2 kb j, if_neg c6, if_neg c6]
    have hh : j = 7 + g (14 + 3 * a) ∨ j = 7 + g (14 + 3 * b) → 0 ≤ g j ∧ g j ≤ 99 := by
      intro z
      rcases z with z | z
      · rw [z]; exact hR.1.h da.2.1.1 da.2.1.2
      · rw [z]; exact hR.1.h db.2.1.1 db.2.1.2
    by_cases p1 : j = 7 + g (14 + 3 * a)
    · by_cases p2 : j = 7 + g (14 + 3 * b)
      · simp only [if_pos p1, if_pos p2]
        exact clamp_2 (hh (Or.inl p1)) la lb
      · simp only [if_pos p1, if_neg p2, if_neg (show ¬ (j = 10 + g (14 + 3 * b) ∧ g (13 + 3 * b) = 3) by omega)]
    · by_cases p2 : j = 7 + g (14 + 3 * b)
      · simp only [if_neg p1, if_pos p2, if_neg (show ¬ (j = 10 + g (14 + 3 * a) ∧ g (13 + 3 * a) = 3) by omega)]
      · simp only [if_neg p1, if_neg p2]
        by_cases s1 : j = 10 + g (14 + 3 * a) ∧ g (13 + 3 * a) = 3
        · by_cases s2 : j = 10 + g (14 + 3 * b) ∧ g (13 + 3 * b) = 3
          · simp only [if_pos s1, if_pos s2]
          · simp only [if_pos s1, if_neg s2]
        · by_cases s2 : j = 10 + g (14 + 3 * b) ∧ g (13 + 3 * b) = 3
          · simp only [if_neg s1, if_pos s2]
          · simp only [if_neg s1, if_neg s2]
theorem bit_2 : ∀ d : Fin 128, ∀ a b : Fin 7, (qand (qshr (qor (d : Nat) (qshl 1 (a : Nat))) (a : Nat)) 1 = 1) ∧ ((a : Nat) ≠ (b : Nat) → qand (qshr (qor (d : Nat) (qshl 1 (a : Nat))) (b : Nat)) 1 = qand (qshr (d : Nat) (b : Nat)) 1) := by decide +kernel
theorem bit_2i {d a b : Int} (hd : 0 ≤ d ∧ d < 128) (ha : 0 ≤ a ∧ a < 7) (hb : 0 ≤ b ∧ b < 7) : qand (qshr (qor d (qshl 1 a)) a) 1 = 1 ∧ (a ≠ b → qand (qshr (qor d (qshl 1 a)) b) 1 = qand (qshr d b) 1) := by
  have h := bit_2 ⟨d.toNat, by omega⟩ ⟨a.toNat, by omega⟩ ⟨b.toNat, by omega⟩
  simp only at h
  rw [show ((d.toNat : Nat) : Int) = d by omega, show ((a.toNat : Nat) : Int) = a by omega, show ((b.toNat : Nat) : Int) = b by omega] at h
  exact ⟨h.1, fun z => h.2 (by omega)⟩
theorem mDone_2 {g : Int → Int} (hR : Row g) {a b : Int} (ha : 0 ≤ a ∧ a < g 5) (hb : 0 ≤ b ∧ b < g 5) : mDone (mDo g a) a ∧ (a ≠ b → (mDone (mDo g a) b ↔ mDone g b)) := by
  have h5 := hR.de
  have h6 := hR.2.2.2.1
  have h7 := pow7 h5
  have q := bit_2i (d := g 6) (a := a) (b := b) (by omega) (by omega) (by omega)
  unfold mDone
  rw [mDo_6]
  exact ⟨q.1, fun z => by rw [q.2 z]⟩
theorem least_turn {n N : Nat} {f : Int → Int} : ∀ (l : List Int) (i : Int) (g : Int → Int), Row g → g 5 = N → (∀ k, 13 ≤ k → g k = f k) → sol n N g (i :: l) → (∀ m : List Int, m.length = (i :: l).length → sol n N g m → lxl (i :: l) m) → turn f i l
  | [], _, _, _, _, _, _, _ => trivial
  | b :: v, i, g, hR, hN, hg, hs, hl => by
    obtain ⟨s1, s2, s3⟩ := hs
    obtain ⟨t1, t2, t3⟩ := s3
    have hi : 0 ≤ i ∧ i < g 5 := by omega
    have hb : 0 ≤ b ∧ b < g 5 := by omega
    refine ⟨fun z => ?_, ?_⟩
    · obtain ⟨z1, z2, z3, z4⟩ := z
      rw [← hg _ (by omega)] at z3 z4
      have hne : i ≠ b := fun q => t2 (q ▸ (mDone_2 hR hi hb).1)
      have q := hl (b :: i :: v) rfl ⟨t1, fun y => t2 (((mDone_2 hR hi hb).2 hne).mpr y), s1, fun y => s2 (((mDone_2 hR hb hi).2 (Ne.symm hne)).mp y), by rw [mDo_2 hR hb hi z4 z3]; exact t3⟩
      have q : i < b ∨ (i = b ∧ lxl (b :: v) (i :: v)) := q
      omega
    · refine least_turn v b (mDo g i) (mDo_row hR hi.1 hi.2) (by rw [mDo_o hR hi.1 hi.2 (by omega)]; exact hN) (fun k hk => by rw [mDo_o hR hi.1 hi.2 (by omega)]; exact hg k hk) ⟨t1, t2, t3⟩ (fun m hm hs => ?_)
      have q := hl (i :: m) (by simp at hm ⊢; exact hm) ⟨s1, s2, hs⟩
      have q : i < i ∨ (i = i ∧ lxl (b :: v) m) := q
      rcases q with q | q
      · omega
      · exact q.2
theorem mF_mG {n N : Nat} {g : Int → Int} (hR : Row g) (hN : g 5 = N) (L : Nat) : mF n N L g = mG n N L (-1) g := by
  have hF := mF_spec (n := n) (N := N) L g
  have aux : ∀ (h : Int → Int) (i : Int), (∀ k, 13 ≤ k → h k = g k) → 0 ≤ i → i < N → ∀ k, 13 ≤ k → mDo h i k = g k := by
    intro h i hh h0 h1 k hk
    have hd := hR.d h0 (by omega)
    unfold mDo
    rw [u1_ne (by omega), mAct_o _ _ _ _ (by rw [hh _ (by omega)]; exact hd.2.1.1) (by rw [hh _ (by omega)]; exact hd.2.1.2) (by omega)]
    exact hh k hk
  have hG := mG_spec (n := n) (N := N) (f := g) L (-1) g (fun _ _ => rfl) aux
  cases e1 : mF n N L g with
  | none =>
    cases e2 : mG n N L (-1) g with
    | none => rfl
    | some r =>
      obtain ⟨q1, q2, q3, q4⟩ := hG.2 r e2
      exact absurd q2 (hF.1 e1 r q1)
  | some r =>
    obtain ⟨q1, q2, q3⟩ := hF.2 r e1
    have ht : turn g (-1) r := by
      cases r with
      | nil => trivial
      | cons i l => exact ⟨fun z => by have := z.1; omega, least_turn l i g hR hN (fun _ _ => rfl) q2 (fun m hm hs => q3 m (by rw [hm]; exact q1) hs)⟩
    cases e2 : mG n N L (-1) g with
    | none => exact absurd ht (hG.1 e2 r q1 q2)
    | some r' =>
      obtain ⟨z1, z2, z3, z4⟩ := hG.2 r' e2
      rw [lxl_eq (by rw [q1, z1]) (q3 r' z1 z2) (z4 r q1 q2 ht)]
