/-! ===== the small world: 96 cells whose shape never changes, their ints a function σ of cell and place ===== -/
abbrev qV : Type := Int ⊕ (Int ⊕ Nat)
abbrev vi (z : Int) : qV := .inl z
abbrev vl (z : Int) : qV := .inr (.inl z)
abbrev vr (k : Nat) : qV := .inr (.inr k)
abbrev qM : Type := Nat → Int → Int
abbrev qY : Type := MethodName × ByteArray × Nat × Option FieldType
/-- launch, slots of the classes, array classes, addresses (0 .. 95 the cells, 96 the script, 97 .. 99 the tables), the script's length and ints -/
abbrev qGl : Type := Launch × va_G × (Nat → ClassId) × (Nat → Nat) × Nat × (Nat → Int32)
def qr (ad : Nat → Nat) : qV → Value
  | .inl z => .int (Int32.ofInt z)
  | .inr (.inl z) => .long (Int64.ofInt z)
  | .inr (.inr k) => .ref (ad k)
def qcat : qV → Nat
  | .inl _ => 1
  | .inr (.inl _) => 2
  | .inr (.inr _) => 1
theorem qcat_ok (ad : Nat → Nat) (v : qV) : (qr ad v).category = qcat v := by
  rcases v with z | z | k <;> rfl
/-- tag 0: an object of class n with these fields (none: an int); 1: ints; 2: booleans; 3: Stance[]; 4: Site[]; 5: int[][] -/
def qTab : List (Nat × Nat × List (Option Nat)) :=
  [(0, 7, [some 1, some 13, some 15, some 22, some 29, some 44, some 46, some 80, none, none]),
   (0, 3, [some 2, some 3, some 4]),
   (5, 8, [some 5, some 6, some 7, some 8, some 9, some 10, some 11, some 12]),
   (1, 8, []),
   (1, 8, []),
   (1, 40, []),
   (1, 40, []),
   (1, 40, []),
   (1, 40, []),
   (1, 40, []),
   (1, 40, []),
   (1, 40, []),
   (1, 40, []),
   (0, 6, [some 14, none, none, none]),
   (1, 120, []),
   (0, 4, [none, none, none, none, none, none, none, some 16, some 17, some 18, some 19]),
   (1, 7, []),
   (1, 7, []),
   (1, 7, []),
   (0, 5, [some 20, some 21]),
   (1, 3, []),
   (1, 3, []),
   (0, 4, [none, none, none, none, none, none, none, some 23, some 24, some 25, some 26]),
   (1, 7, []),
   (1, 7, []),
   (1, 7, []),
   (0, 5, [some 27, some 28]),
   (1, 3, []),
   (1, 3, []),
   (4, 2, [some 30, some 37]),
   (0, 4, [none, none, none, none, none, none, none, some 31, some 32, some 33, some 34]),
   (1, 7, []),
   (1, 7, []),
   (1, 7, []),
   (0, 5, [some 35, some 36]),
   (1, 3, []),
   (1, 3, []),
   (0, 4, [none, none, none, none, none, none, none, some 38, some 39, some 40, some 41]),
   (1, 7, []),
   (1, 7, []),
   (1, 7, []),
   (0, 5, [some 42, some 43]),
   (1, 3, []),
   (1, 3, []),
   (0, 0, [some 45, none, none]),
   (1, 360, []),
   (0, 2, [some 47, some 50, some 51, some 52, some 55]),
   (0, 5, [some 48, some 49]),
   (1, 3, []),
   (1, 3, []),
   (1, 7, []),
   (1, 3, []),
   (0, 5, [some 53, some 54]),
   (1, 3, []),
   (1, 3, []),
   (3, 8, [some 56, some 59, some 62, some 65, some 68, some 71, some 74, some 77]),
   (0, 5, [some 57, some 58]),
   (1, 3, []),
   (1, 3, []),
   (0, 5, [some 60, some 61]),
   (1, 3, []),
   (1, 3, []),
   (0, 5, [some 63, some 64]),
   (1, 3, []),
   (1, 3, []),
   (0, 5, [some 66, some 67]),
   (1, 3, []),
   (1, 3, []),
   (0, 5, [some 69, some 70]),
   (1, 3, []),
   (1, 3, []),
   (0, 5, [some 72, some 73]),
   (1, 3, []),
   (1, 3, []),
   (0, 5, [some 75, some 76]),
   (1, 3, []),
   (1, 3, []),
   (0, 5, [some 78, some 79]),
   (1, 3, []),
   (1, 3, []),
   (0, 1, [some 81, none]),
   (1, 16, []),
   (0, 8, [none, none, some 83, some 84, some 85, some 86, some 87, some 88, some 89, none, some 90, none, none, none, none, none, none, none, none, some 91, some 92, some 93, some 94, some 95, none]),
   (1, 8, []),
   (1, 8, []),
   (1, 320, []),
   (1, 34, []),
   (1, 34, []),
   (1, 34, []),
   (1, 816, []),
   (1, 120, []),
   (1, 272, []),
   (1, 8, []),
   (2, 2, []),
   (1, 68, []),
   (1, 16, [])]
def qSh (k : Nat) : Nat × Nat × List (Option Nat) := qTab.getD k (9, 0, [])
theorem qTab_len : qTab.length = 96 := by decide +kernel
def qfs (ad : Nat → Nat) (f : Int → Int) : Nat → List (Option Nat) → List Value
  | _, [] => []
  | i, some k :: r => .ref (ad k) :: qfs ad f (i + 1) r
  | i, none :: r => .int (Int32.ofInt (f i)) :: qfs ad f (i + 1) r
def qcell (cA : Nat → ClassId) (ad : Nat → Nat) (σ : qM) (k : Nat) : va_E :=
  match qSh k with
  | (0, c, fs) => .inr (c, qfs ad (σ k) 0 fs)
  | (1, n, _) => .inl (cA 1, n, .inl (fun j => Int32.ofInt (σ k j)))
  | (2, n, _) => .inl (cA 2, n, .inl (fun j => Int32.ofInt (σ k j)))
  | (t, n, rs) => .inl (cA t, n, .inr (.inr (.inr (.inr (fun j => (rs.getD j none).map ad)))))
def qwld (cA : Nat → ClassId) (ad : Nat → Nat) (σ : qM) : va_W := (List.range 96).map (fun k => (ad k, qcell cA ad σ k))
theorem qwld_at {cA : Nat → ClassId} {ad : Nat → Nat} {σ : qM} {k : Nat} (h : k < 96) : (qwld cA ad σ)[k]? = some (ad k, qcell cA ad σ k) := by
  unfold qwld
  rw [List.getElem?_map, List.getElem?_range h]
  rfl
theorem qwld_len {cA : Nat → ClassId} {ad : Nat → Nat} {σ : qM} : (qwld cA ad σ).length = 96 := by simp [qwld]
theorem qwld_inv {cA : Nat → ClassId} {ad : Nat → Nat} {σ : qM} {k : Nat} {q : Nat × va_E} (h : (qwld cA ad σ)[k]? = some q) : k < 96 ∧ q = (ad k, qcell cA ad σ k) := by
  have hk : k < 96 := by
    have := (List.getElem?_eq_some_iff.mp h).1
    rwa [qwld_len] at this
  rw [qwld_at hk] at h
  exact ⟨hk, (Option.some.inj h).symm⟩
theorem qSh_lt {k t n : Nat} {fs : List (Option Nat)} (h : qSh k = (t, n, fs)) (ht : t ≠ 9) : k < 96 := by
  rcases Nat.lt_or_ge k 96 with q | q
  · exact q
  · unfold qSh at h
    rw [List.getD_eq_getElem?_getD, List.getElem?_eq_none (by rw [qTab_len]; exact q)] at h
    cases h
    exact absurd rfl ht
theorem qcell_congr {cA : Nat → ClassId} {ad : Nat → Nat} {σ σ' : qM} {k : Nat} (h : σ' k = σ k) : qcell cA ad σ' k = qcell cA ad σ k := by
  unfold qcell
  rw [h]
theorem qwld_set {cA : Nat → ClassId} {ad : Nat → Nat} {σ σ' : qM} {k : Nat} {e : va_E} (h : ∀ j, j ≠ k → σ' j = σ j) (hc : qcell cA ad σ' k = e) : (qwld cA ad σ).set k (ad k, e) = qwld cA ad σ' := by
  apply List.ext_getElem?
  intro j
  by_cases hj : j < 96
  · rw [qwld_at hj]
    by_cases e1 : j = k
    · subst e1
      rw [List.getElem?_set_self (by rw [qwld_len]; exact hj), hc]
    · rw [List.getElem?_set_ne (fun q => e1 q.symm), qwld_at hj, qcell_congr (h j e1)]
  · rw [List.getElem?_eq_none (by rw [List.length_set, qwld_len]; omega), List.getElem?_eq_none (by rw [qwld_len]; omega)]
/-- one int of a cell becomes v -/
def up (σ : qM) (k : Nat) (i v : Int) : qM := fun k' j => if k' = k ∧ j = i then v else σ k' j
theorem up_ne {σ : qM} {k k' : Nat} {i v : Int} (h : k' ≠ k) : up σ k i v k' = σ k' := by
  funext j
  simp [up, h]
theorem up_same {σ : qM} {k : Nat} {i v j : Int} : up σ k i v k j = if j = i then v else σ k j := by
  simp [up]
/-- the ints of a cell become f -/
def put (σ : qM) (k : Nat) (f : Int → Int) : qM := fun k' => if k' = k then f else σ k'
theorem put_ne {σ : qM} {k k' : Nat} {f : Int → Int} (h : k' ≠ k) : put σ k f k' = σ k' := by simp [put, h]
theorem put_same {σ : qM} {k : Nat} {f : Int → Int} : put σ k f k = f := by simp [put]
def qtys (cA : Nat → ClassId) : List (ClassId × FieldType) := [(cA 1, .int), (cA 2, .boolean), (cA 3, .object RX5), (cA 4, .object RX4), (cA 5, .array .int)]
def qtb (i : Nat) : Int → Int := fun j => match i with
  | 0 => if j = 2 then 1 else if j = 3 then 1 else if j = 5 then 4 else 0
  | 1 => if j = 0 then 10 else if j = 1 then 11 else if j = 2 then 12 else if j = 3 then 0 else if j = 4 then 13 else 14
  | _ => if j = 0 then 20 else if j = 1 then 21 else if j = 2 then 24 else if j = 3 then 22 else if j = 4 then 23 else 0
def qtn (i : Nat) : String := match i with
  | 0 => "NEAREST"
  | 1 => "SIZE_BODIES"
  | _ => "MARK_BODIES"
/-- the cells' addresses -/
def qS (G : qGl) : Nat → Prop := fun q => ∃ k, k < 96 ∧ q = G.2.2.2.1 k
/-- the world: tables as in U, heap H -/
def qWd (G : qGl) (σ : qM) (U : State) (H : Heap) : Prop :=
  va_P G.2.1 vwCl (qwld G.2.2.1 G.2.2.2.1 σ) H ∧ va_K G.2.1 vwCl (qtys G.2.2.1) U ∧ (∀ i j, i < 96 → j < 96 → G.2.2.2.1 i = G.2.2.2.1 j → i = j)
/-- what nobody writes: the script, the three tables -/
def qWs (G : qGl) (U : State) : Prop :=
  va_X (G.2.2.2.1 96) G.2.2.2.2.1 G.2.2.2.2.2 U U.heap ∧ ¬ qS G (G.2.2.2.1 96) ∧
  (∀ i, i < 3 → va_Z RX1 (qtn i) "[I" (.ref (G.2.2.2.1 (97 + i))) (qS G) U U.heap ∧ va_T .int (G.2.2.2.1 (97 + i)) 6 (fun j => .int (Int32.ofInt (qtb i j))) (qS G) U U.heap)
theorem qWd.D {G : qGl} {σ : qM} {U : State} {H : Heap} (h : qWd G σ U H) : va_D (qS G) (qwld G.2.2.1 G.2.2.2.1 σ) := by
  refine ⟨fun i j p q hi hj e => ?_, fun k q hk => ?_⟩
  · obtain ⟨l1, rfl⟩ := qwld_inv hi
    obtain ⟨l2, rfl⟩ := qwld_inv hj
    exact h.2.2 i j l1 l2 e
  · obtain ⟨l1, rfl⟩ := qwld_inv hk
    exact ⟨k, l1, rfl⟩
theorem qWd.moved {G : qGl} {σ : qM} {u U : State} {H : Heap} (hvm : u.vm.Alike U.vm) (h : qWd G σ u H) : qWd G σ U H :=
  ⟨h.1, h.2.1.moved hvm, h.2.2⟩
/-- the same tables' words, a later heap that differs within the world alone -/
theorem qWs.at {G : qGl} {s U : State} {locs : List Loc} (h : qWs G s) (hvm : s.vm.Alike U.vm) (hS : va_S (qS G) s.heap U.heap locs) : qWs G U := by
  obtain ⟨h1, h2, h3⟩ := h
  have hb : G.2.2.2.1 96 < s.heap.size := by
    obtain ⟨c, q, -⟩ := h1
    exact (Array.getElem?_eq_some_iff.mp q).1
  exact ⟨(h1.moved hvm).kept (hS.2.1 _ hb h2), h2, fun i hi => ⟨((h3 i hi).1.moved hvm).kept (fun a ha hn => hS.2.1 a ha hn), ((h3 i hi).2.moved hvm).kept (fun a ha hn => hS.2.1 a ha hn)⟩⟩
def qQQ (G : qGl) (Q : Option qV → qM → Prop) : Array Value → State → Outcome → State → Prop := fun _ st oc t =>
  (∃ (v : Option qV) (σ' : qM), oc = .returned (v.map (qr G.2.2.2.1)) ∧ Q v σ' ∧ qWd G σ' t t.heap) ∧ va_F (qS G) st t
def qL (ad : Nat → Nat) (L : List (Nat × qV)) : List (Nat × Value) := L.map (fun q => (q.1, qr ad q.2))
def qCx (y : qY) (d : Nat) (p : Program) (R : Room) (s : State) (m : MethodId) (args : Array Value) (meth : Method) (c : Code) (k n : Nat) : Prop :=
  p.tables.exec = Jvm.exec ∧ c.code = y.2.1 ∧ c.maxLocals = y.2.2.1 ∧ meth.sig.returnType = y.2.2.2 ∧ meth.locks = false ∧ s.vm.findClass y.1.cls = some m.cls ∧ (∀ w ∈ TB, w.before args s = true) ∧
  d ≤ R.frames ∧ 64 * d ≤ R.locals ∧ k ≤ R.cells ∧ n ≤ R.slots
/-- from this frame over this world the method y, with room for d calls below, comes to its end with Q -/
def qE (G : qGl) (y : qY) (d pc : Nat) (L : List (Nat × qV)) (st : List qV) (σ : qM) (Q : Option qV → qM → Prop) : Prop :=
  ∀ (p : Program) (e : Env) (R : Room) (s : State) (m : MethodId) (args : Array Value) (below : List Frame) (meth : Method) (c : Code) (H : Heap) (locs : List Loc) (k n : Nat) (ls : Array Slot),
    qCx y d p R s m args meth c k n → qWs G s → qWd G σ s H → va_S (qS G) s.heap H locs → lv_has ls y.2.2.1 (qL G.2.2.2.1 L) →
    W p G.1 e R s m args below meth c H locs k n (MQ below (qQQ G Q) args s k n (qS G)) (F0 m pc ls (st.map (qr G.2.2.2.1)))
section QR
variable {G : qGl} {y : qY} {d pc : Nat} {L : List (Nat × qV)} {st : List qV} {σ : qM} {Q : Option qV → qM → Prop}
def qget (L : List (Nat × qV)) (k : Nat) : Option qV := (L.find? (fun q => q.1 == k)).map (fun q => q.2)
theorem qget_at {L : List (Nat × qV)} {k : Nat} {v : qV} (h : qget L k = some v) {ad : Nat → Nat} {ls : Array Slot} {nL : Nat} (hl : lv_has ls nL (qL ad L)) : ls[k]? = some (.val (qr ad v)) := by
  unfold qget at h
  cases hf : L.find? (fun q => q.1 == k) with
  | none => rw [hf] at h; cases h
  | some q =>
    rw [hf] at h
    have hm := List.mem_of_find?_eq_some hf
    have hk : q.1 = k := by simpa using List.find?_some hf
    have hv : q.2 = v := Option.some.inj h
    have := hl.2.2 (q.1, qr ad q.2) (List.mem_map.mpr ⟨q, hm, rfl⟩)
    rw [hk, hv] at this
    exact this
def qst1 (L : List (Nat × qV)) (k : Nat) (v : qV) : List (Nat × qV) := (k, v) :: L.filter (fun q => !(q.1 == k) && !(q.1 + 1 == k && qcat q.2 == 2))
def qst2 (L : List (Nat × qV)) (k : Nat) (v : qV) : List (Nat × qV) := (k, v) :: L.filter (fun q => !(q.1 == k) && (!(q.1 == k + 1) && !(q.1 + 1 == k && qcat q.2 == 2)))
theorem qst1_ok {ad : Nat → Nat} {k : Nat} {v : qV} : (k, qr ad v) :: (qL ad L).filter (fun q => !(q.1 == k) && !(q.1 + 1 == k && q.2.category == 2)) = qL ad (qst1 L k v) := by
  simp only [qL, qst1, List.map_cons, List.filter_map]
  congr 2
  apply List.filter_congr
  intro q _
  simp [qcat_ok]
theorem qst2_ok {ad : Nat → Nat} {k : Nat} {v : qV} : (k, qr ad v) :: (qL ad L).filter (fun q => !(q.1 == k) && (!(q.1 == k + 1) && !(q.1 + 1 == k && q.2.category == 2))) = qL ad (qst2 L k v) := by
  simp only [qL, qst2, List.map_cons, List.filter_map]
  congr 2
  apply List.filter_congr
  intro q _
  simp [qcat_ok]
/-- fewer locals, in another order -/
theorem q_locs (L' : List (Nat × qV)) (ks : List Nat) (h : ks.filterMap (fun k => L[k]?) = L') (k : qE G y d pc L' st σ Q) : qE G y d pc L st σ Q := by
  intro p e R s m args below meth c H locs k' n ls C Ws Wd S hl
  refine k p e R s m args below meth c H locs k' n ls C Ws Wd S ⟨hl.1, hl.2.1, fun q hq => ?_⟩
  obtain ⟨a, ha, rfl⟩ := List.mem_map.mp hq
  rw [← h] at ha
  obtain ⟨i, -, hi⟩ := List.mem_filterMap.mp ha
  exact hl.2.2 _ (List.mem_map.mpr ⟨a, List.mem_of_getElem? hi, rfl⟩)
theorem q_mono {Q' : Option qV → qM → Prop} (h : ∀ v σ', Q' v σ' → Q v σ') (k : qE G y d pc L st σ Q') : qE G y d pc L st σ Q := by
  intro p e R s m args below meth c H locs k' n ls C Ws Wd S hl T hT X
  obtain ⟨t, a, o, b1, b2, ⟨⟨v, σ', e1, e2, e3⟩, e4⟩, b3⟩ := k p e R s m args below meth c H locs k' n ls C Ws Wd S hl T hT X
  exact ⟨t, a, o, b1, b2, ⟨⟨v, σ', e1, h v σ' e2, e3⟩, e4⟩, b3⟩
theorem q_iconst {n : Int} (hd : decode y.2.1 pc = .ok (.iconst n, 1)) (k : qE G y d (pc + 1) L (.inl n :: st) σ Q) : qE G y d pc L st σ Q :=
  fun p e R s m args below meth c H locs k' n' ls C Ws Wd S hl => lv_iconst C.1 C.2.1 hd rfl (k p e R s m args below meth c H locs k' n' ls C Ws Wd S hl)
theorem q_bipush {n : Int} (hd : decode y.2.1 pc = .ok (.bipush n, 2)) (hn : (Int8.ofInt n).toInt32 = Int32.ofInt n) (k : qE G y d (pc + 2) L (.inl n :: st) σ Q) : qE G y d pc L st σ Q :=
  fun p e R s m args below meth c H locs k' n' ls C Ws Wd S hl => lv_bipush C.1 C.2.1 hd hn (k p e R s m args below meth c H locs k' n' ls C Ws Wd S hl)
theorem q_sipush {n : Int} (hd : decode y.2.1 pc = .ok (.sipush n, 3)) (hn : (Int16.ofInt n).toInt32 = Int32.ofInt n) (k : qE G y d (pc + 3) L (.inl n :: st) σ Q) : qE G y d pc L st σ Q :=
  fun p e R s m args below meth c H locs k' n' ls C Ws Wd S hl => lv_sipush C.1 C.2.1 hd hn (k p e R s m args below meth c H locs k' n' ls C Ws Wd S hl)
theorem q_lconst0 (hd : decode y.2.1 pc = .ok (.lconst 0, 1)) (k : qE G y d (pc + 1) L (.inr (.inl 0) :: st) σ Q) : qE G y d pc L st σ Q :=
  fun p e R s m args below meth c H locs k' n' ls C Ws Wd S hl => lv_lconst C.1 C.2.1 hd (by decide +kernel) (k p e R s m args below meth c H locs k' n' ls C Ws Wd S hl)
theorem q_lconst1 (hd : decode y.2.1 pc = .ok (.lconst 1, 1)) (k : qE G y d (pc + 1) L (.inr (.inl 1) :: st) σ Q) : qE G y d pc L st σ Q :=
  fun p e R s m args below meth c H locs k' n' ls C Ws Wd S hl => lv_lconst C.1 C.2.1 hd (by decide +kernel) (k p e R s m args below meth c H locs k' n' ls C Ws Wd S hl)
theorem q_ldc {idx : Nat} {n : Int} (hw : Cond.constant y.1.cls idx (Int32.ofInt n) ∈ TB) (hd : decode y.2.1 pc = .ok (.ldc idx, 2)) (k : qE G y d (pc + 2) L (.inl n :: st) σ Q) : qE G y d pc L st σ Q :=
  fun p e R s m args below meth c H locs k' n' ls C Ws Wd S hl => lv_ldc C.1 C.2.1 C.2.2.2.2.2.1 (C.2.2.2.2.2.2.1 _ hw) hd (k p e R s m args below meth c H locs k' n' ls C Ws Wd S hl)
theorem q_ldcw {idx : Nat} {n : Int} (hw : Cond.constant y.1.cls idx (Int32.ofInt n) ∈ TB) (hd : decode y.2.1 pc = .ok (.ldc_w idx, 3)) (k : qE G y d (pc + 3) L (.inl n :: st) σ Q) : qE G y d pc L st σ Q :=
  fun p e R s m args below meth c H locs k' n' ls C Ws Wd S hl => lv_ldcw C.1 C.2.1 C.2.2.2.2.2.1 (C.2.2.2.2.2.2.1 _ hw) hd (k p e R s m args below meth c H locs k' n' ls C Ws Wd S hl)
theorem q_ldc2 {idx : Nat} {n : Int} (hw : Cond.constantLong y.1.cls idx (Int64.ofInt n) ∈ TB) (hd : decode y.2.1 pc = .ok (.ldc2_w idx, 3)) (k : qE G y d (pc + 3) L (.inr (.inl n) :: st) σ Q) : qE G y d pc L st σ Q :=
  fun p e R s m args below meth c H locs k' n' ls C Ws Wd S hl => lv_ldc2 C.1 C.2.1 C.2.2.2.2.2.1 (C.2.2.2.2.2.2.1 _ hw) hd (k p e R s m args below meth c H locs k' n' ls C Ws Wd S hl)
theorem q_iload_n {i : Fin 4} {z : Int} (hd : decode y.2.1 pc = .ok (.iload_n i, 1)) (h : qget L i = some (.inl z)) (k : qE G y d (pc + 1) L (.inl z :: st) σ Q) : qE G y d pc L st σ Q :=
  fun p e R s m args below meth c H locs k' n' ls C Ws Wd S hl => lv_iload_n C.1 C.2.1 hd rfl (qget_at h hl) (k p e R s m args below meth c H locs k' n' ls C Ws Wd S hl)
theorem q_iload {i : Nat} {z : Int} (hd : decode y.2.1 pc = .ok (.iload i, 2)) (h : qget L i = some (.inl z)) (k : qE G y d (pc + 2) L (.inl z :: st) σ Q) : qE G y d pc L st σ Q :=
  fun p e R s m args below meth c H locs k' n' ls C Ws Wd S hl => lv_iload C.1 C.2.1 hd (qget_at h hl) (k p e R s m args below meth c H locs k' n' ls C Ws Wd S hl)
theorem q_lload_n {i : Fin 4} {z : Int} (hd : decode y.2.1 pc = .ok (.lload_n i, 1)) (h : qget L i = some (.inr (.inl z))) (k : qE G y d (pc + 1) L (.inr (.inl z) :: st) σ Q) : qE G y d pc L st σ Q :=
  fun p e R s m args below meth c H locs k' n' ls C Ws Wd S hl => lv_lload_n C.1 C.2.1 hd rfl (qget_at h hl) (k p e R s m args below meth c H locs k' n' ls C Ws Wd S hl)
theorem q_lload {i : Nat} {z : Int} (hd : decode y.2.1 pc = .ok (.lload i, 2)) (h : qget L i = some (.inr (.inl z))) (k : qE G y d (pc + 2) L (.inr (.inl z) :: st) σ Q) : qE G y d pc L st σ Q :=
  fun p e R s m args below meth c H locs k' n' ls C Ws Wd S hl => lv_lload C.1 C.2.1 hd (qget_at h hl) (k p e R s m args below meth c H locs k' n' ls C Ws Wd S hl)
theorem q_aload_n {i : Fin 4} {a : Nat} (hd : decode y.2.1 pc = .ok (.aload_n i, 1)) (h : qget L i = some (.inr (.inr a))) (k : qE G y d (pc + 1) L (.inr (.inr a) :: st) σ Q) : qE G y d pc L st σ Q :=
  fun p e R s m args below meth c H locs k' n' ls C Ws Wd S hl => lv_aload_n C.1 C.2.1 hd rfl (qget_at h hl) (k p e R s m args below meth c H locs k' n' ls C Ws Wd S hl)
theorem q_aload {i : Nat} {a : Nat} (hd : decode y.2.1 pc = .ok (.aload i, 2)) (h : qget L i = some (.inr (.inr a))) (k : qE G y d (pc + 2) L (.inr (.inr a) :: st) σ Q) : qE G y d pc L st σ Q :=
  fun p e R s m args below meth c H locs k' n' ls C Ws Wd S hl => lv_aload C.1 C.2.1 hd (qget_at h hl) (k p e R s m args below meth c H locs k' n' ls C Ws Wd S hl)
theorem q_istore_n {i : Fin 4} {z : Int} (hd : decode y.2.1 pc = .ok (.istore_n i, 1)) (hn : (i : Nat) < y.2.2.1) (k : qE G y d (pc + 1) (qst1 L i (.inl z)) st σ Q) : qE G y d pc L (.inl z :: st) σ Q :=
  fun p e R s m args below meth c H locs k' n' ls C Ws Wd S hl => lv_istore_n C.1 C.2.1 hd rfl hl hn (qst1_ok (v := .inl z)) (fun ls' hl' => k p e R s m args below meth c H locs k' n' ls' C Ws Wd S hl')
theorem q_istore {i : Nat} {z : Int} (hd : decode y.2.1 pc = .ok (.istore i, 2)) (hn : i < y.2.2.1) (k : qE G y d (pc + 2) (qst1 L i (.inl z)) st σ Q) : qE G y d pc L (.inl z :: st) σ Q :=
  fun p e R s m args below meth c H locs k' n' ls C Ws Wd S hl => lv_istore C.1 C.2.1 hd hl hn (qst1_ok (v := .inl z)) (fun ls' hl' => k p e R s m args below meth c H locs k' n' ls' C Ws Wd S hl')
theorem q_lstore_n {i : Fin 4} {z : Int} (hd : decode y.2.1 pc = .ok (.lstore_n i, 1)) (hn : (i : Nat) + 1 < y.2.2.1) (k : qE G y d (pc + 1) (qst2 L i (.inr (.inl z))) st σ Q) : qE G y d pc L (.inr (.inl z) :: st) σ Q :=
  fun p e R s m args below meth c H locs k' n' ls C Ws Wd S hl => lv_lstore_n C.1 C.2.1 hd rfl hl hn (qst2_ok (v := .inr (.inl z))) (fun ls' hl' => k p e R s m args below meth c H locs k' n' ls' C Ws Wd S hl')
theorem q_lstore {i : Nat} {z : Int} (hd : decode y.2.1 pc = .ok (.lstore i, 2)) (hn : i + 1 < y.2.2.1) (k : qE G y d (pc + 2) (qst2 L i (.inr (.inl z))) st σ Q) : qE G y d pc L (.inr (.inl z) :: st) σ Q :=
  fun p e R s m args below meth c H locs k' n' ls C Ws Wd S hl => lv_lstore C.1 C.2.1 hd hl hn (qst2_ok (v := .inr (.inl z))) (fun ls' hl' => k p e R s m args below meth c H locs k' n' ls' C Ws Wd S hl')
theorem q_astore_n {i : Fin 4} {a : Nat} (hd : decode y.2.1 pc = .ok (.astore_n i, 1)) (hn : (i : Nat) < y.2.2.1) (k : qE G y d (pc + 1) (qst1 L i (.inr (.inr a))) st σ Q) : qE G y d pc L (.inr (.inr a) :: st) σ Q :=
  fun p e R s m args below meth c H locs k' n' ls C Ws Wd S hl => lv_astore_n C.1 C.2.1 hd rfl hl hn (qst1_ok (v := .inr (.inr a))) (fun ls' hl' => k p e R s m args below meth c H locs k' n' ls' C Ws Wd S hl')
theorem q_astore {i : Nat} {a : Nat} (hd : decode y.2.1 pc = .ok (.astore i, 2)) (hn : i < y.2.2.1) (k : qE G y d (pc + 2) (qst1 L i (.inr (.inr a))) st σ Q) : qE G y d pc L (.inr (.inr a) :: st) σ Q :=
  fun p e R s m args below meth c H locs k' n' ls C Ws Wd S hl => lv_astore C.1 C.2.1 hd hl hn (qst1_ok (v := .inr (.inr a))) (fun ls' hl' => k p e R s m args below meth c H locs k' n' ls' C Ws Wd S hl')
end QR
