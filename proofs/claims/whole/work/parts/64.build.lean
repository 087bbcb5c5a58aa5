/-! ===== constructors: a world that grows ===== -/
abbrev bT : Type := List (ClassId × FieldType)
/-- constructors of nest mates: class, entry of its pool, which -/
def nestL : List (String × Nat × MethodName) := [(RX7, 9, yX3_init), (RX7, 18, yX6_init), (RX7, 25, yX4_init), (RX4, 27, yX5_init), (RX7, 39, yX0_init), (RX7, 46, yX2_init), (RX2, 11, yX5_init), (RX7, 53, yX1_init)]
/-- what the tables say that no world says; cI is int[] -/
def bX (D : va_G) (cI : ClassId) (U : State) : Prop := va_K D vwCl [(cI, .int)] U ∧ va_AO RX4 U ∧ va_AO RX5 U ∧ gd_W U ∧ ∀ q ∈ nestL, va_Nw (.methodLinkNest q.1 q.2.1 q.2.2 RX7) U
theorem bX.warm {D : va_G} {cI : ClassId} {s U : State} (h : bX D cI s) (hW : s.WarmedH U.vm) : bX D cI U :=
  ⟨h.1.moved hW.alike, h.2.1.moved hW.alike, h.2.2.1.moved hW.alike, h.2.2.2.1.moved hW.alike, fun q hq => va_Nw.warmM hW (h.2.2.2.2 q hq)⟩
theorem bX.same {D : va_G} {cI : ClassId} {s U : State} (h : bX D cI s) (e : s.vm = U.vm) : bX D cI U := by
  have hv : s.vm.Alike U.vm := by rw [e]; exact Vm.Alike.refl _
  exact ⟨h.1.moved hv, h.2.1.moved hv, h.2.2.1.moved hv, h.2.2.2.1.moved hv, fun q hq => va_Nw.same rfl e (h.2.2.2.2 q hq)⟩
theorem bX.I {D : va_G} {cI : ClassId} {U : State} (h : bX D cI U) : U.vm.findClass "[I" = some cI := (h.1.2 0 _ rfl).2
def bQ (D : va_G) (A : Nat → Prop) (w0 : va_W) (Q : va_W → bT → Prop) : Array Value → State → Outcome → State → Prop := fun _ st oc t =>
  (∃ (w : va_W) (tys : bT), oc = .returned none ∧ Q w tys ∧ va_P D vwCl (w0 ++ w) t.heap ∧ va_D A (w0 ++ w) ∧ va_K D vwCl tys t) ∧ va_F A st t
/-- y, on the object at h, with rc cells and rs slots to make, comes to its end: behind w0 stands w with Q -/
def bE (l : Launch) (D : va_G) (cI : ClassId) (y : qY) (d rc rs pc h : Nat) (st : List Value) (w0 w1 : va_W) (tys : bT) (Q : va_W → bT → Prop) : Prop :=
  ∀ (p : Program) (e : Env) (R : Room) (s : State) (m : MethodId) (args : Array Value) (below : List Frame) (meth : Method) (c : Code) (H : Heap) (locs : List Loc) (k n : Nat) (ls : Array Slot) (A : Nat → Prop),
    qCx y d p R s m args meth c (k + rc) (n + rs) → meth.name = y.1.name → bX D cI s → va_K D vwCl tys s → va_P D vwCl (w0 ++ w1) H → va_D A (w0 ++ w1) → va_S A s.heap H locs → (∀ q, s.heap.size ≤ q → A q) → lv_has ls y.2.2.1 [(0, .ref h)] →
    W p l e R s m args below meth c H locs k n (MQ below (bQ D A w0 Q) args s (k + rc) (n + rs) A) (F0 m pc ls st)
theorem b_nn {N : Nat} (hN : N ≤ 1000) : ¬ Int32.ofInt (N : Int) < 0 := by
  rw [qI_0]
  exact Int32.not_lt.mpr ((qI_le (a := 0) (b := (N : Int)) ⟨by omega, by omega⟩ ⟨by omega, by omega⟩).mpr (by omega))
section BR
variable {l : Launch} {D : va_G} {cI : ClassId} {y : qY} {d rc rs pc h : Nat} {st : List Value} {w0 w1 : va_W} {tys : bT} {Q : va_W → bT → Prop}
theorem b_eqw (w2 : va_W) (e : w1 = w2) (kk : bE l D cI y d rc rs pc h st w0 w2 tys Q) : bE l D cI y d rc rs pc h st w0 w1 tys Q := by
  subst e
  exact kk
theorem b_eqt (t2 : bT) (e : tys = t2) (kk : bE l D cI y d rc rs pc h st w0 w1 t2 Q) : bE l D cI y d rc rs pc h st w0 w1 tys Q := by
  subst e
  exact kk
theorem b_this (hd : decode y.2.1 pc = .ok (.aload_n 0, 1)) (kk : bE l D cI y d rc rs (pc + 1) h (.ref h :: st) w0 w1 tys Q) : bE l D cI y d rc rs pc h st w0 w1 tys Q :=
  fun p e R s m args below meth c H locs k n ls A C hm X K P DD S hA hl => lv_aload_n C.1 C.2.1 hd rfl (lv_at hl 0 rfl) (kk p e R s m args below meth c H locs k n ls A C hm X K P DD S hA hl)
theorem b_iconst {z : Int} (hd : decode y.2.1 pc = .ok (.iconst z, 1)) (kk : bE l D cI y d rc rs (pc + 1) h (.int (Int32.ofInt z) :: st) w0 w1 tys Q) : bE l D cI y d rc rs pc h st w0 w1 tys Q :=
  fun p e R s m args below meth c H locs k n ls A C hm X K P DD S hA hl => lv_iconst C.1 C.2.1 hd rfl (kk p e R s m args below meth c H locs k n ls A C hm X K P DD S hA hl)
theorem b_bipush {z : Int} (hd : decode y.2.1 pc = .ok (.bipush z, 2)) (hz : (Int8.ofInt z).toInt32 = Int32.ofInt z) (kk : bE l D cI y d rc rs (pc + 2) h (.int (Int32.ofInt z) :: st) w0 w1 tys Q) : bE l D cI y d rc rs pc h st w0 w1 tys Q :=
  fun p e R s m args below meth c H locs k n ls A C hm X K P DD S hA hl => lv_bipush C.1 C.2.1 hd hz (kk p e R s m args below meth c H locs k n ls A C hm X K P DD S hA hl)
theorem b_sipush {z : Int} (hd : decode y.2.1 pc = .ok (.sipush z, 3)) (hz : (Int16.ofInt z).toInt32 = Int32.ofInt z) (kk : bE l D cI y d rc rs (pc + 3) h (.int (Int32.ofInt z) :: st) w0 w1 tys Q) : bE l D cI y d rc rs pc h st w0 w1 tys Q :=
  fun p e R s m args below meth c H locs k n ls A C hm X K P DD S hA hl => lv_sipush C.1 C.2.1 hd hz (kk p e R s m args below meth c H locs k n ls A C hm X K P DD S hA hl)
theorem b_dup {q : Nat} (hd : decode y.2.1 pc = .ok (.dup, 1)) (kk : bE l D cI y d rc rs (pc + 1) h (.ref q :: .ref q :: st) w0 w1 tys Q) : bE l D cI y d rc rs pc h (.ref q :: st) w0 w1 tys Q :=
  fun p e R s m args below meth c H locs k n ls A C hm X K P DD S hA hl => lv_dup C.1 C.2.1 hd rfl (kk p e R s m args below meth c H locs k n ls A C hm X K P DD S hA hl)
theorem tb_oi : Cond.instanceMethod Lib.objectInit ∈ TB := tb_at 67 (by decide +kernel) (by decide +kernel)
theorem tb_oc : Cond.code Lib.objectInit ⟨#[0xb1]⟩ 1 none ∈ TB := tb_at 68 (by decide +kernel) (by decide +kernel)
theorem b_obj {idx q : Nat} (hd : decode y.2.1 pc = .ok (.invokespecial idx, 3)) (hw : Cond.methodLink y.1.cls idx Lib.objectInit ∈ TB) (hst : (st.map fun v => v.category).sum ≤ 8) (hd1 : 1 ≤ d) (kk : bE l D cI y d rc rs (pc + 3) h st w0 w1 tys Q) : bE l D cI y d rc rs pc h (.ref q :: st) w0 w1 tys Q := by
  intro p e R s m args below meth c H locs k n ls A C hm X K P DD S hA hl
  refine W.objInit C.1 C.2.1 C.2.2.2.2.2.1 (C.2.2.2.2.2.2.1 _ hw) (C.2.2.2.2.2.2.1 _ tb_oi) (C.2.2.2.2.2.2.1 _ tb_oc) rfl (hl.1.trans C.2.2.1.symm) rfl hd (Nat.le_trans hd1 C.2.2.2.2.2.2.2.1) ?_ (kk p e R s m args below meth c H locs k n ls A C hm X K P DD S hA hl)
  have := C.2.2.2.2.2.2.2.2.1
  show 2 * 0 + _ + 12 ≤ _
  omega
theorem b_at {w0 w1 : va_W} {j : Nat} : (w0 ++ w1)[w0.length + j]? = w1[j]? := by
  rw [List.getElem?_append_right (by omega), Nat.add_sub_cancel_left]
theorem b_set {w0 w1 : va_W} {j : Nat} {x : Nat × va_E} : (w0 ++ w1).set (w0.length + j) x = w0 ++ w1.set j x := by
  have := List.set_append_right (s := w0) (t := w1) (w0.length + j) x (by omega)
  rw [Nat.add_sub_cancel_left] at this
  exact this
theorem b_new {idx ci N : Nat} {C : String} {T : u_T} {ty : Nat → FieldType} {fs : List Value} (hd : decode y.2.1 pc = .ok (.new idx, 3)) (hC : qC ci C T N ty) (hl1 : Cond.classLink y.1.cls idx C ∈ TB) (hl2 : Cond.instantiable C N ∈ TB) (hl3 : Cond.initialized C ∈ TB) (hfs : ∀ j, j < N → defaultValue (ty j) = vp_V fs j)
    (kk : ∀ q, bE l D cI y d rc rs (pc + 3) h (.ref q :: st) w0 (w1 ++ [(q, .inr (ci, fs))]) tys Q) : bE l D cI y d (rc + 1) (rs + N) pc h st w0 w1 tys Q := by
  intro p e R s m args below meth c H locs k n ls A Cx hm X K P DD S hA hl
  obtain ⟨c1, c2, c3, c4⟩ := hC
  have hts := Cx.2.2.2.2.2.2.1
  have h1 := Cx.2.2.2.2.2.2.2.2.2.1
  have h2 := Cx.2.2.2.2.2.2.2.2.2.2
  have e1 : k + 1 + rc = k + (rc + 1) := by omega
  have e2 : n + N + rs = n + (rs + N) := by omega
  refine va_new Cx.1 Cx.2.1 hts c2 ty c3 Cx.2.2.2.2.2.1 (hts _ hl1) (hts _ hl2) (hts _ hl3) K P DD S hA c1 hfs (by omega) (by omega) hd (fun q H1 P1 D1 S1 => ?_)
  rw [List.append_assoc] at P1 D1
  have := kk q p e R s m args below meth c H1 locs (k + 1) (n + N) ls A (by rw [e1, e2]; exact Cx) hm X K P1 D1 S1 hA hl
  rw [e1, e2] at this
  exact this
/-- an array of ints -/
def iA (cI : ClassId) (n : Nat) (f : Int → Int) : va_E := .inl (cI, n, .inl (fun j => Int32.ofInt (f j)))
abbrev z0 : Int → Int := fun _ => 0
theorem tb_ai : Cond.arrayClass .int ∈ TB := tb_at 88 (by decide +kernel) (by decide +kernel)
theorem tb_az : Cond.arrayClass .boolean ∈ TB := tb_at 901 (by decide +kernel) (by decide +kernel)
theorem b_newa {a : Int} {N : Nat} (ha : a = (N : Int)) (hd : decode y.2.1 pc = .ok (.newarray .int, 2)) (hN : N ≤ 1000) (kk : ∀ q, bE l D cI y d rc rs (pc + 2) h (.ref q :: st) w0 (w1 ++ [(q, iA cI N z0)]) tys Q) : bE l D cI y d (rc + 1) (rs + N) pc h (.int (Int32.ofInt a) :: st) w0 w1 tys Q := by
  subst ha
  intro p e R s m args below meth c H locs k n ls A Cx hm X K P DD S hA hl
  have hts := Cx.2.2.2.2.2.2.1
  have h1 := Cx.2.2.2.2.2.2.2.2.2.1
  have h2 := Cx.2.2.2.2.2.2.2.2.2.2
  have e1 : k + 1 + rc = k + (rc + 1) := by omega
  have e2 : n + N + rs = n + (rs + N) := by omega
  have hn := qI_cl (a := (N : Int)) (by omega) (by omega)
  have hg := b_nn hN
  refine va_newaK (atype := .int) (N := N) Cx.1 Cx.2.1 (hts _ tb_ai) rfl hd rfl hg (hn.trans (by omega)) (by show N * 4 ≤ _; omega) (by omega) (by omega) rfl (fun H1 cA f1 f2 f3 f4 f5 => ?_)
  have f5 : s.vm.findClass "[I" = some cA := f5
  have ec : cA = cI := Option.some.inj (f5.symm.trans X.I)
  subst ec
  have P1 : va_P D vwCl ((w0 ++ w1) ++ [(H.size, iA cA N z0)]) H1 := (P.kept (fun j x hx => f3 x.1 ((P j x hx).lt))).app (fun j x hx => by
    have hz : j < 1 := (List.getElem?_eq_some_iff.mp hx).1
    rw [show j = 0 by omega] at hx
    cases hx
    exact f1)
  have D1 : va_D A ((w0 ++ w1) ++ [(H.size, iA cA N z0)]) := DD.push P rfl (hA _ S.1)
  rw [List.append_assoc] at P1 D1
  have := kk H.size p e R s m args below meth c H1 locs (k + 1) (n + N) ls A (by rw [e1, e2]; exact Cx) hm X K P1 D1 ⟨Nat.le_trans S.1 (by omega), fun x g1 g2 => (f3 x (Nat.lt_of_lt_of_le g1 S.1)).trans (S.2.1 x g1 g2), S.2.2⟩ hA hl
  rw [e1, e2] at this
  exact this
theorem b_newz {a : Int} {N : Nat} (ha : a = (N : Int)) (hd : decode y.2.1 pc = .ok (.newarray .boolean, 2)) (hN : N ≤ 1000) (kk : ∀ q cA, bE l D cI y d rc rs (pc + 2) h (.ref q :: st) w0 (w1 ++ [(q, iA cA N z0)]) (tys ++ [(cA, .boolean)]) Q) : bE l D cI y d (rc + 1) (rs + N) pc h (.int (Int32.ofInt a) :: st) w0 w1 tys Q := by
  subst ha
  intro p e R s m args below meth c H locs k n ls A Cx hm X K P DD S hA hl
  have hts := Cx.2.2.2.2.2.2.1
  have h1 := Cx.2.2.2.2.2.2.2.2.2.1
  have h2 := Cx.2.2.2.2.2.2.2.2.2.2
  have e1 : k + 1 + rc = k + (rc + 1) := by omega
  have e2 : n + N + rs = n + (rs + N) := by omega
  have hn := qI_cl (a := (N : Int)) (by omega) (by omega)
  have hg := b_nn hN
  refine va_newa (atype := .boolean) (a0 := (N, .inl (fun j => Int32.ofInt (z0 j)))) Cx.1 Cx.2.1 (hts _ tb_az) rfl K P DD S hA (fun _ => rfl) hg (hn.trans (by omega)) (by show N * 1 ≤ _; omega) (by omega) (by omega) hd (fun q cA H1 K1 P1 D1 S1 => ?_)
  rw [List.append_assoc] at P1 D1
  have := kk q cA p e R s m args below meth c H1 locs (k + 1) (n + N) ls A (by rw [e1, e2]; exact Cx) hm X K1 P1 D1 S1 hA hl
  rw [e1, e2] at this
  exact this
/-- an array of references -/
def rA (cA : ClassId) (n : Nat) (f : Nat → Option Nat) : va_E := .inl (cA, n, .inr (.inr (.inr (.inr f))))
theorem b_newq {a : Int} {N idx : Nat} {C : String} (ha : a = (N : Int)) (hC : C = RX4 ∨ C = RX5) (hd : decode y.2.1 pc = .ok (.anewarray idx, 3)) (hw : Cond.classLink y.1.cls idx C ∈ TB) (hN : N ≤ 1000) (kk : ∀ q cA, bE l D cI y d rc rs (pc + 3) h (.ref q :: st) w0 (w1 ++ [(q, rA cA N (fun _ => none))]) (tys ++ [(cA, .object C)]) Q) : bE l D cI y d (rc + 1) (rs + N) pc h (.int (Int32.ofInt a) :: st) w0 w1 tys Q := by
  subst ha
  intro p e R s m args below meth c H locs k n ls A Cx hm X K P DD S hA hl
  have hts := Cx.2.2.2.2.2.2.1
  have h1 := Cx.2.2.2.2.2.2.2.2.2.1
  have h2 := Cx.2.2.2.2.2.2.2.2.2.2
  have e1 : k + 1 + rc = k + (rc + 1) := by omega
  have e2 : n + N + rs = n + (rs + N) := by omega
  have hn := qI_cl (a := (N : Int)) (by omega) (by omega)
  have hg := b_nn hN
  have ho : va_AO C s := by
    rcases hC with rfl | rfl
    · exact X.2.1
    · exact X.2.2.1
  refine va_newq (N' := N) Cx.1 Cx.2.1 Cx.2.2.2.2.2.1 (hts _ hw) ho K P DD S hA hg (hn.trans (by omega)) (by omega) (by omega) (by omega) hd (fun q cA H1 K1 P1 D1 S1 => ?_)
  rw [List.append_assoc] at P1 D1
  have := kk q cA p e R s m args below meth c H1 locs (k + 1) (n + N) ls A (by rw [e1, e2]; exact Cx) hm X K1 P1 D1 S1 hA hl
  rw [e1, e2] at this
  exact this
/-- the nine cells, one by one -/
def gdL (cA cy : ClassId) (q : Nat) : va_W := [(q, rA cA 8 (fun j => [q + 1, q + 2, q + 3, q + 4, q + 5, q + 6, q + 7, q + 8][j]?)), (q + 1, iA cy 40 z0), (q + 2, iA cy 40 z0), (q + 3, iA cy 40 z0), (q + 4, iA cy 40 z0), (q + 5, iA cy 40 z0), (q + 6, iA cy 40 z0), (q + 7, iA cy 40 z0), (q + 8, iA cy 40 z0)]
theorem gdL_is {cA cy : ClassId} {q : Nat} : gd_ws cA cy q = gdL cA cy q := by
  have e : (fun i => if i < 8 then some (q + 1 + i) else none) = fun j => [q + 1, q + 2, q + 3, q + 4, q + 5, q + 6, q + 7, q + 8][j]? := by
    funext j
    match j with
    | 0 => rfl
    | 1 => rfl
    | 2 => rfl
    | 3 => rfl
    | 4 => rfl
    | 5 => rfl
    | 6 => rfl
    | 7 => rfl
    | n + 8 => rw [if_neg (by omega)]; rfl
  unfold gd_ws
  rw [e]
  rfl
set_option maxRecDepth 8000 in
theorem b_grid {idx : Nat} (hd : decode y.2.1 pc = .ok (.multianewarray idx 2, 4)) (hw : Cond.classLink y.1.cls idx "[[I" ∈ TB) (kk : ∀ q cA, bE l D cI y d rc rs (pc + 4) h (.ref q :: st) w0 (w1 ++ gdL cA cI q) (tys ++ [(cA, .array .int)]) Q) : bE l D cI y d (rc + 9) (rs + 328) pc h (.int (Int32.ofInt 40) :: .int (Int32.ofInt 8) :: st) w0 w1 tys Q := by
  intro p e R s m args below meth c H locs k n ls A Cx hm X K P DD S hA hl
  have hts := Cx.2.2.2.2.2.2.1
  have h1 := Cx.2.2.2.2.2.2.2.2.2.1
  have h2 := Cx.2.2.2.2.2.2.2.2.2.2
  have e1 : k + 9 + rc = k + (rc + 9) := by omega
  have e2 : n + 328 + rs = n + (rs + 328) := by omega
  have h3 : k + 9 ≤ R.cells := by omega
  have h4 : n + 328 ≤ R.slots := by omega
  rw [show Int32.ofInt 40 = 40 by decide, show Int32.ofInt 8 = 8 by decide]
  refine gd_rule Cx.1 Cx.2.1 Cx.2.2.2.2.2.1 (hts _ hw) X.2.2.2.1 (hts _ tb_ai) X.I K P DD S hA h3 h4 hd (fun q cA H1 K1 P1 D1 S1 => ?_)
  rw [gdL_is, List.append_assoc] at P1 D1
  have := kk q cA p e R s m args below meth c H1 locs (k + 9) (n + 328) ls A (by rw [e1, e2]; exact Cx) hm X K1 P1 D1 S1 hA hl
  rw [e1, e2] at this
  exact this
theorem b_iast {a b : Int} {q N : Nat} {f : Int → Int} (j : Nat) (hd : decode y.2.1 pc = .ok (.iastore, 1)) (he : w1[j]? = some (q, iA cI N f)) (hN : N ≤ 1000) (h0 : 0 ≤ a ∧ a < N) (kk : bE l D cI y d rc rs (pc + 1) h st w0 (w1.set j (q, iA cI N (fun x => if x = a then b else f x))) tys Q) : bE l D cI y d rc rs pc h (.int (Int32.ofInt b) :: .int (Int32.ofInt a) :: .ref q :: st) w0 w1 tys Q := by
  intro p e R s m args below meth c H locs k n ls A Cx hm X K P DD S hA hl
  have he' : (w0 ++ w1)[w0.length + j]? = some (q, iA cI N f) := by rw [b_at]; exact he
  refine va_iast (a := q) Cx.1 Cx.2.1 X.1 P DD S (w0.length + j) 0 he' rfl (qI_in h0.1 h0.2 (by omega)) hd (fun H1 locs1 P1 D1 S1 => ?_)
  have ef : upd (fun x : Nat => Int32.ofInt (f x)) (Int32.ofInt a).toNatClampNeg (Int32.ofInt b) = fun x : Nat => Int32.ofInt ((fun x : Int => if x = a then b else f x) x) := by
    rw [qI_cl h0.1 (by omega)]
    funext x
    unfold upd
    show _ = Int32.ofInt (if (x : Int) = a then b else f x)
    by_cases c : (x : Int) = a
    · rw [if_pos c, if_pos (by omega)]
    · rw [if_neg c, if_neg (by omega)]
  rw [ef, b_set] at P1 D1
  exact kk p e R s m args below meth c H1 locs1 k n ls A Cx hm X K P1 D1 S1 hA hl
theorem b_aast {a : Int} {q v N ci : Nat} {cA : ClassId} {r : vw_C} {f : Nat → Option Nat} {vs : List Value} (j jk t : Nat) (hd : decode y.2.1 pc = .ok (.aastore, 1)) (he : w1[j]? = some (q, rA cA N f)) (ht : tys[t]? = some (cA, .object r.1)) (hv : w1[jk]? = some (v, .inr (ci, vs))) (hc : vwCl[ci]? = some r) (hN : N ≤ 1000) (h0 : 0 ≤ a ∧ a < N) (kk : bE l D cI y d rc rs (pc + 1) h st w0 (w1.set j (q, rA cA N (va_up f a.toNat (some v)))) tys Q) : bE l D cI y d rc rs pc h (.ref v :: .int (Int32.ofInt a) :: .ref q :: st) w0 w1 tys Q := by
  intro p e R s m args below meth c H locs k n ls A Cx hm X K P DD S hA hl
  have he' : (w0 ++ w1)[w0.length + j]? = some (q, rA cA N f) := by rw [b_at]; exact he
  have hv' : (w0 ++ w1)[w0.length + jk]? = some (v, .inr (ci, vs)) := by rw [b_at]; exact hv
  refine va_astq (a := q) Cx.1 Cx.2.1 K P DD S (w0.length + j) t (w0.length + jk) ci he' ht hv' hc (qI_in h0.1 h0.2 (by omega)) hd (fun H1 locs1 P1 D1 S1 => ?_)
  rw [qI_cl h0.1 (by omega), b_set] at P1 D1
  exact kk p e R s m args below meth c H1 locs1 k n ls A Cx hm X K P1 D1 S1 hA hl
/-- a final field, a reference -/
theorem b_putF {idx ci N i q : Nat} {C : String} {T : u_T} {ty : Nat → FieldType} {t : FieldType} {v : Nat} {fs : List Value} (j : Nat) (hd : decode y.2.1 pc = .ok (.putfield idx, 3)) (hC : qC ci C T N ty) (hi : i < N) (hw : Cond.fieldLink y.1.cls idx (T i).1 (T i).2.1 (T i).2.2.1 ∈ TB) (hfin : (T i).2.2.2 = true) (hdecl : (T i).1 = y.1.cls) (hnm : y.1.name = "<init>") (ht : parseFieldDescriptor (T i).2.2.1 = some t) (hr : t.isReference = true) (he : w1[j]? = some (q, .inr (ci, fs))) (hlen : i < fs.length)
    (kk : bE l D cI y d rc rs (pc + 3) h st w0 (w1.set j (q, .inr (ci, fs.set i (.ref v)))) tys Q) : bE l D cI y d rc rs pc h (.ref v :: .ref q :: st) w0 w1 tys Q := by
  intro p e R s m args below meth c H locs k n ls A Cx hm X K P DD S hA hl
  obtain ⟨c1, c2, c3, c4⟩ := hC
  have hts := Cx.2.2.2.2.2.2.1
  have he' : (w0 ++ w1)[w0.length + j]? = some (q, .inr (ci, fs)) := by rw [b_at]; exact he
  have hnf : narrow t (.ref v) = .ref v ∧ fits t (.ref v) = true := by
    cases t <;> first | exact ⟨rfl, rfl⟩ | exact absurd hr (by decide)
  refine va_putF (a := q) Cx.1 Cx.2.1 hts c2 ty c3 c4 Cx.2.2.2.2.2.1 K P DD S (w0.length + j) he' c1 i hi (hts _ hw) (fun _ h9 => h9) hfin (hm.trans hnm) hdecl ht hnf.1 hnf.2 hlen hd (fun H1 locs1 P1 D1 S1 => ?_)
  rw [b_set] at P1 D1
  exact kk p e R s m args below meth c H1 locs1 k n ls A Cx hm X K P1 D1 S1 hA hl
theorem b_putI {idx ci j q : Nat} {a : Int} {fs : List Value} (jw : Nat) (hd : decode y.2.1 pc = .ok (.putfield idx, 3)) (hF : qFw y.1.cls idx ci j false) (he : w1[jw]? = some (q, .inr (ci, fs))) (hlen : j < fs.length) (kk : bE l D cI y d rc rs (pc + 3) h st w0 (w1.set jw (q, .inr (ci, fs.set j (.int (Int32.ofInt a))))) tys Q) : bE l D cI y d rc rs pc h (.int (Int32.ofInt a) :: .ref q :: st) w0 w1 tys Q := by
  intro p e R s m args below meth c H locs k n ls A Cx hm X K P DD S hA hl
  obtain ⟨cn, T, N, ty, ⟨c1, c2, c3, c4⟩, hjN, hw, hfin, hty⟩ := hF
  have hts := Cx.2.2.2.2.2.2.1
  have he' : (w0 ++ w1)[w0.length + jw]? = some (q, .inr (ci, fs)) := by rw [b_at]; exact he
  refine va_put (a := q) Cx.1 Cx.2.1 hts c2 ty c3 c4 Cx.2.2.2.2.2.1 K P DD S (w0.length + jw) he' c1 j hjN (hts _ hw) (fun _ h9 => h9) hfin hty rfl rfl hlen hd (fun H1 locs1 P1 D1 S1 => ?_)
  rw [b_set] at P1 D1
  exact kk p e R s m args below meth c H1 locs1 k n ls A Cx hm X K P1 D1 S1 hA hl
theorem b_ret (hd : decode y.2.1 pc = .ok (.return_, 1)) (hr : y.2.2.2 = none) (hq : Q w1 tys) : bE l D cI y d rc rs pc h [] w0 w1 tys Q := by
  intro p e R s m args below meth c H locs k n ls A Cx hm X K P DD S hA hl
  refine W.widen (k := k + rc) (n := n + rs) (by omega) (by omega) ?_
  exact W.vret Cx.1 Cx.2.1 (Cx.2.2.2.1.trans hr) (fun t ht hW => ⟨⟨w1, tys, rfl, hq, by rw [ht]; exact P, DD, K.moved hW.alike⟩, S.F ht⟩) S.2.2 hd Cx.2.2.2.2.1
end BR
section BM
variable {l : Launch} {D : va_G} {cI : ClassId} {y z : qY} {d rc rs pc h q : Nat} {st : List Value} {w0 w1 : va_W} {tys : bT} {Q : va_W → bT → Prop} {obj : va_E}
def bPc (D : va_G) (cI : ClassId) (A : Nat → Prop) (w0 w1 : va_W) (q sz : Nat) : Array Value → State → Prop := va_Pc [.ref q] (fun U => U.heap.size = sz ∧ bX D cI U ∧ va_P D vwCl (w0 ++ w1) U.heap ∧ va_D A (w0 ++ w1))
theorem bMet {A : Nat → Prop} {sz : Nat} (hp : plainName z.1.cls = true) (h1 : z.2.2.1 = 1) (hA : ∀ x, sz ≤ x → A x) (hE : bE l D cI z d rc rs 0 q [] w0 w1 [] Q) :
    Met l z.1 (Cond.code z.1 z.2.1 z.2.2.1 z.2.2.2 :: TB) { frames := d, cells := rc, slots := rs, locals := 64 * d } (bPc D cI A w0 w1 q sz) (bQ D A w0 Q) rc rs A := by
  refine Met.ofW (cc := z.2.1) (maxL := z.2.2.1) (ret := z.2.2.2) hp rfl ?_
  intro p e s m args below meth c s₁ B hml hv
  obtain ⟨rfl, hsz, hX, hP, hD⟩ := hv
  have hts := atoms_spec (ws := Cond.code z.1 z.2.1 z.2.2.1 z.2.2.2 :: TB) B.pre
  have hown : s.vm.findClass z.1.cls = some m.cls := findClass_of_methodNamed B.named
  have hnm : meth.name = z.1.name := (name_of_methodNamed B.named B.method).1
  have hl := lv_entry ([.ref q]) (n := z.2.2.1) (by rw [h1]; exact Nat.le_of_ble_eq_true rfl)
  rw [lg_entry_eq]
  have K := hE p e { frames := d, cells := rc, slots := rs, locals := 64 * d } s m _ below meth c s.heap [] 0 0 _ A ⟨B.exec, B.bytes, hml, B.returns, B.notSynchronized, hown, fun w hw => hts w (List.mem_cons_of_mem _ hw), Nat.le_refl _, Nat.le_refl _, by show 0 + rc ≤ rc; omega, by show 0 + rs ≤ rs; omega⟩ hnm hX ⟨hX.1.1, fun k x hx => by cases hx⟩ hP hD va_S.rf (by rw [hsz]; exact hA) hl
  rw [Nat.zero_add, Nat.zero_add] at K
  exact K
theorem bblind {A : Nat → Prop} {sz : Nat} : FrameBlind (bPc D cI A w0 w1 q sz) := by
  intro a U g mk h
  obtain ⟨h1, h2, h3, h4, h5⟩ := h
  exact ⟨h1, h2, h3.same rfl, h4, h5⟩
theorem b_behind {p : Program} {e : Env} {R : Room} {s : State} {m : MethodId} {args : Array Value} {below : List Frame} {meth : Method} {c : Code} {H : Heap} {locs : List Loc} {k n : Nat} {ls : Array Slot} {st0 st : List Value} {As : Array Value} {Z : State → Prop} {A : Nat → Prop}
    (hr : va_Run p l e R s m args below meth c H locs k n rc rs (F0 m pc ls st0) st (bQ D A w0 Q As) A) (hS : va_S A s.heap H locs)
    (kk : ∀ (w' : va_W) (t' : bT) (H1 : Heap) (locs1 : List Loc), Q w' t' → va_P D vwCl (w0 ++ w') H1 → va_D A (w0 ++ w') → va_K D vwCl t' s → va_S A s.heap H1 locs1 → W p l e R s m args below meth c H1 locs1 (k + rc) (n + rs) Z (F0 m (pc + 3) ls st)) : W p l e R s m args below meth c H locs k n Z (F0 m pc ls st0) := by
  intro T hT X
  obtain ⟨v, st₀, t, T', L', h0, X', hL, e1, e2, ⟨⟨w', t', hv, hq, hP, hD, hK⟩, hz, hk⟩, go⟩ := hr T hT X
  cases hv
  rw [h0] at hz hk
  have hK' : va_K D vwCl t' s := by
    refine hK.moved ?_
    rw [← e2]
    exact X'.warmed.alike.symm
  obtain ⟨t2, a1, b1⟩ := kk w' t' T'.heap (locs ++ L') hq (by rw [e1]; exact hP) hD hK'
    ⟨Nat.le_trans hS.1 (by rw [e1]; exact hz), fun x h1 h2 => by rw [e1, hk x (Nat.lt_of_lt_of_le h1 hS.1) h2]; exact hS.2.1 x h1 h2, fun x hx => by
      rcases List.mem_append.mp hx with h | h
      · exact hS.2.2 x h
      · exact hL x h⟩ T' rfl X'
  exact ⟨t2, go t2 a1, b1⟩
/-- a constructor: its words -/
def bV (z : qY) : Prop := Cond.instanceMethod z.1 ∈ TB ∧ Cond.initialized z.1.cls ∈ TB ∧ Cond.code z.1 z.2.1 z.2.2.1 z.2.2.2 ∈ TB ∧ z.1.name = "<init>" ∧ z.2.2.1 = 1 ∧ z.2.2.2 = none ∧ plainName z.1.cls = true ∧ z.1.cls ≠ "java/lang/invoke/MethodHandle" ∧ z.1.cls ≠ "java/lang/invoke/VarHandle" ∧ (parseMethodDescriptor z.1.desc).map (fun d => d.parameters.length) = some 0
theorem b_call {idx rc1 rs1 : Nat} {Q' : va_W → bT → Prop} (hd : decode y.2.1 pc = .ok (.invokespecial idx, 3)) (hq : (y.1.cls, idx, z.1) ∈ nestL) (hV : bV z) (hst : (st.map fun v => v.category).sum ≤ 8) (hE : ∀ w, bE l D cI z d rc1 rs1 0 q [] w [(q, obj)] [] Q') (kk : ∀ w' t', Q' w' t' → bE l D cI y (d + 1) rc rs (pc + 3) h st w0 (w1 ++ w') (tys ++ t') Q) :
    bE l D cI y (d + 1) (rc + rc1) (rs + rs1) pc h (.ref q :: st) w0 (w1 ++ [(q, obj)]) tys Q := by
  intro p e R s m args below meth c H locs k n ls A C hm X K P DD S hA hl
  obtain ⟨v1, v2, v3, v4, v5, v6, v7, v8⟩ := hV
  have hts := C.2.2.2.2.2.2.1
  have h1 := C.2.2.2.2.2.2.2.2.2.1
  have h2 := C.2.2.2.2.2.2.2.2.2.2
  have hR : d + 1 ≤ R.frames ∧ 8 + (z.2.2.1 + 11) + 64 * d ≤ R.locals := ⟨C.2.2.2.2.2.2.2.1, by have := C.2.2.2.2.2.2.2.2.1; omega⟩
  rw [← List.append_assoc] at P DD
  have hM := bMet (sz := H.size) (A := A) v7 v5 (fun x hx => hA x (Nat.le_trans S.1 hx)) (hE (w0 ++ w1))
  have v3' := qgoodIn v3
  have hr := va_runIN (p := p) (e := e) (below := below) (meth := meth) (H := H) (locs := locs) (cells := k) (slots := n) (g := F0 m pc ls (.ref q :: st)) (b := q) (As := []) (rest := st) (bytes := z.2.1) (maxL := z.2.2.1) (own := y.1.cls) (host := RX7) (index := idx) (n := 0) ⟨C.1, C.2.1, C.2.2.1, C.2.2.2.2.2.1, hts⟩ hM
    ⟨va_cnB 0 hts (by rw [v6] at v3'; rw [v6]; exact v3') (by rw [v6]) rfl rfl (X.2.2.2.2 _ hq) (hts _ v2) v8 hR, v4, hts _ v1⟩
    ⟨bblind, fun U hU hW => ⟨rfl, by rw [hU], X.warm hW, by rw [hU]; exact P, DD⟩⟩ rfl rfl hl.1 rfl (lv_room hst) hd ⟨by omega, by omega⟩
  have e1 : k + rc1 + rc = k + (rc + rc1) := by omega
  have e2 : n + rs1 + rs = n + (rs + rs1) := by omega
  refine b_behind hr S (fun w' t' H1 locs1 hq' P1 D1 K1 S1 => ?_)
  rw [List.append_assoc] at P1 D1
  have := kk w' t' hq' p e R s m args below meth c H1 locs1 (k + rc1) (n + rs1) ls A (by rw [e1, e2]; exact C) hm X (K.app K1) P1 D1 S1 hA hl
  rw [e1, e2] at this
  exact this
end BM
