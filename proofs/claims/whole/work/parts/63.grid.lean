/-! ===== new int[8][40] ===== -/
/-- the outer array, i of its rows laid -/
def gdO (cA : ClassId) (h i : Nat) : Cell := arrV cA 8 (fun j => va_rf (if j < i then some (h + 1 + j) else none))
def gdI (cy : ClassId) : Cell := arrV cy 40 (fun _ => .int 0)
def gdS (T : State) (cA cy : ClassId) : Nat → State
  | 0 => T.pushCell (gdO cA T.heap.size 0)
  | i + 1 => ((gdS T cA cy i).pushCell (gdI cy)).setCell T.heap.size (gdO cA T.heap.size (i + 1))
theorem gdO_next {cA : ClassId} {h i : Nat} : (gdO cA h i).setSlot i (.ref (h + 1 + i)) = gdO cA h (i + 1) := by
  unfold gdO
  rw [arrV_store]
  refine congrArg (arrV cA 8) (funext fun j => ?_)
  show (if j = i then Value.ref (h + 1 + i) else va_rf (if j < i then some (h + 1 + j) else none)) = va_rf (if j < i + 1 then some (h + 1 + j) else none)
  by_cases e : j = i
  · subst e
    rw [if_pos rfl, if_pos (Nat.lt_succ_self j)]
    rfl
  · rw [if_neg e]
    by_cases q : j < i
    · rw [if_pos q, if_pos (by omega)]
    · rw [if_neg q, if_neg (by omega)]
theorem gdS_is (T : State) (cA cy : ClassId) : ∀ i : Nat, (gdS T cA cy i).heap.size = T.heap.size + 1 + i ∧ (gdS T cA cy i).heap[T.heap.size]? = some (gdO cA T.heap.size i) ∧ (gdS T cA cy i).vm = T.vm ∧ (gdS T cA cy i).slotsUsed = T.slotsUsed + 8 + i * 40 ∧ (∀ a : Nat, a < T.heap.size → (gdS T cA cy i).heap[a]? = T.heap[a]?) ∧ ∀ j : Nat, j < i → (gdS T cA cy i).heap[T.heap.size + 1 + j]? = some (gdI cy)
  | 0 => by
    refine ⟨by simp [gdS], by simp [gdS], rfl, ?_, fun a ha => State.heap_pushCell_of_lt _ _ ha, fun j hj => absurd hj (Nat.not_lt_zero j)⟩
    have : (gdO cA T.heap.size 0).slots.size = 8 := arrV_size _ _ _
    simp [gdS, this]
  | i + 1 => by
    obtain ⟨a1, a2, a3, a4, a5, a6⟩ := gdS_is T cA cy i
    have hlt : T.heap.size < (gdS T cA cy i).heap.size := by omega
    have hb : ((gdS T cA cy i).pushCell (gdI cy)).heap[T.heap.size]? = some (gdO cA T.heap.size i) := by rw [State.heap_pushCell_of_lt (h := hlt)]; exact a2
    have hz : (gdI cy).slots.size = 40 := arrV_size _ _ _
    refine ⟨?_, State.heap_setCell_self hb, by simp [gdS, a3], ?_, fun a ha => ?_, fun j hj => ?_⟩
    · simp [gdS, State.setCell, a1]; omega
    · simp [gdS, a4, hz]; omega
    · show (((gdS T cA cy i).pushCell (gdI cy)).setCell T.heap.size _).heap[a]? = _
      rw [State.heap_setCell_other (Nat.ne_of_gt ha), State.heap_pushCell_of_lt (h := show a < (gdS T cA cy i).heap.size by omega)]
      exact a5 a ha
    · show (((gdS T cA cy i).pushCell (gdI cy)).setCell T.heap.size _).heap[T.heap.size + 1 + j]? = _
      rw [State.heap_setCell_other (show T.heap.size ≠ T.heap.size + 1 + j by omega)]
      by_cases q : j < i
      · rw [State.heap_pushCell_of_lt (h := show T.heap.size + 1 + j < (gdS T cA cy i).heap.size by omega)]
        exact a6 j q
      · rw [show T.heap.size + 1 + j = (gdS T cA cy i).heap.size by rw [a1]; omega]
        exact State.heap_pushCell_size _ _
theorem gdS_top (T : State) (f : JFrame) (cA cy : ClassId) : ∀ i, gdS (T.setTop f) cA cy i = (gdS T cA cy i).setTop f
  | 0 => rfl
  | i + 1 => by
    show ((gdS (T.setTop f) cA cy i).pushCell (gdI cy)).setCell T.heap.size _ = _
    rw [gdS_top T f cA cy i, State.pushCell_setTop, State.setCell_setTop]
    rfl
section GRW
variable {E : CtlPost} {e : Env} {d : Bool} {acts : List Action} {s : State}
/-- an array of n values that are each as at birth -/
theorem gd_new {c comp : ClassId} {k : Class} {ty : FieldType} {n : Nat} {v : Value} (hk : s.vm.classes[c]? = some k) (hkd : k.kind = .array comp ty) (h1 : ¬ n > e.platform.arrayLengthLimit) (h2 : ¬ n * componentBytes ty > e.platform.maxHeapBytes) (hf : fits ty v = true) (hd : v.isDefault = true) (h3 : s.heap.size < e.platform.maxCells) (h4 : s.slotsUsed + n ≤ e.platform.maxSlots) {Q : Addr → Pre} (hq : Q s.heap.size d acts (s.pushCell (arrV c n (fun _ => v)))) : wp (Jvm.newArray c n v) Q E e d acts s := by
  have ha : allocActs (Array.replicate n v) s.heap.size acts = acts := by
    unfold allocActs
    rw [if_pos]
    rw [Array.all_replicate]
    split <;> simp [hd]
  have hs : ∀ (i : Nat) (x : Value), (Array.replicate n v)[i]? = some x → s.fitsSlot c .none i x = true := fun i x hx => by
    rw [Array.getElem?_replicate] at hx
    split at hx
    · cases hx
      simp [State.fitsSlot, State.slotType?, hk, hkd, hf]
    · cases hx
  rw [← arrV_new] at hq
  simp only [Jvm.newArray, Jvm.arrayFits, wp_bind', W.ask, W.ite, h1, if_false, wp_pure', W.theClass, hk, hkd, h2, W.alloc, W.stop, Option.some.injEq, exists_eq_left', Array.size_replicate, ha]
  rw [if_neg (by omega)]
  exact ⟨h3, h4, hs, hq⟩
theorem gd_row {cy cc : ClassId} {k : Class} (hk : s.vm.classes[cy]? = some k) (hkd : k.kind = .array cc .int) (h1 : ¬ 40 > e.platform.arrayLengthLimit) (h2 : ¬ 160 > e.platform.maxHeapBytes) (h3 : s.heap.size < e.platform.maxCells) (h4 : s.slotsUsed + 40 ≤ e.platform.maxSlots) {Q : Addr → Pre} (hq : Q s.heap.size d acts (s.pushCell (gdI cy))) : wp (multianewarray.make cy [40]) Q E e d acts s := by
  rw [multianewarray.make]
  have h0 : ¬ (40 : Int32) < 0 := by decide
  simp only [wp_bind', W.ite, h0, if_false, wp_pure', W.theClass, hk, hkd, Option.some.injEq, exists_eq_left']
  exact gd_new hk hkd h1 h2 rfl rfl h3 h4 hq
theorem gd_make {cA cy cc : ClassId} {k kc : Class} (hk : s.vm.classes[cA]? = some k) (hkd : k.kind = .array cy (.array .int)) (hkc : s.vm.classes[cy]? = some kc) (hkdc : kc.kind = .array cc .int) (h1 : ¬ 40 > e.platform.arrayLengthLimit) (h2 : ¬ 160 > e.platform.maxHeapBytes) (h3 : s.heap.size + 9 ≤ e.platform.maxCells) (h4 : s.slotsUsed + 328 ≤ e.platform.maxSlots) {Q : Addr → Pre} (hq : ∀ d' acts', Q s.heap.size d' acts' (gdS s cA cy 8)) : wp (multianewarray.make cA [8, 40]) Q E e d acts s := by
  rw [multianewarray.make]
  have h0 : ¬ (8 : Int32) < 0 := by decide
  have h8 : (8 : Int32).toNatClampNeg = 8 := by decide
  have hfd : ([(40 : Int32)].find? (· < 0)) = none := by decide
  simp only [wp_bind', W.ite, h0, if_false, wp_pure', W.theClass, hk, hkd, Option.some.injEq, exists_eq_left', h8]
  refine gd_new hk hkd (by omega) (by show ¬ 8 * 4 > _; omega) rfl rfl (by omega) (by omega) ?_
  simp only [hfd]
  rw [ite_self, wp_bind', Std.Legacy.Range.forIn_eq_forIn_range']
  have hsz : ([:8] : Std.Legacy.Range).size = 8 := by simp [Std.Legacy.Range.size]
  rw [hsz]
  show wp (forIn (List.range' 0 8 1) PUnit.unit _) _ E e d acts _
  refine wp_forIn_inv (fun l s' => ∃ i, i ≤ 8 ∧ l = List.range' i (8 - i) ∧ s' = gdS s cA cy i) _ _ ⟨0, Nat.zero_le _, rfl, ?_⟩ ?_ ?_
  · show s.pushCell _ = s.pushCell _
    refine congrArg _ ?_
    unfold gdO
    rfl
  · rintro x l s' d' acts' Q' ⟨i, hi, hl, rfl⟩ hnext
    have hlt : i < 8 := by
      rcases Nat.lt_or_ge i 8 with q | q
      · exact q
      · rw [show 8 - i = 0 by omega] at hl
        cases hl
    rw [show 8 - i = (8 - (i + 1)) + 1 by omega, List.range'_succ] at hl
    obtain ⟨rfl, rfl⟩ := List.cons.inj hl
    obtain ⟨a1, a2, a3, a4, a5, a6⟩ := gdS_is s cA cy x
    simp only [wp_bind']
    refine gd_row (by rw [a3]; exact hkc) hkdc h1 h2 (by rw [a1]; omega) (by rw [a4]; omega) ?_
    simp only [wp_bind', W.writeLoc, wp_pure']
    refine ⟨gdO cA s.heap.size x, by rw [State.heap_pushCell_of_lt (h := show s.heap.size < (gdS s cA cy x).heap.size by omega)]; exact a2, (by show VmData.none ≠ _; simp), by show x < (arrV _ _ _).slots.size; rw [arrV_size]; exact hlt, ?_, hnext _ _ _ ⟨x + 1, hlt, rfl, ?_⟩⟩
    · show State.fitsSlot _ cA .none x _ = true
      simp [State.fitsSlot, State.slotType?, a3, hk, hkd]
      rfl
    · rw [a1, gdO_next]
      rfl
  · rintro s' d' acts' ⟨i, hi, hl, rfl⟩
    have hi8 : i = 8 := by
      rcases Nat.lt_or_ge i 8 with q | q
      · rw [show 8 - i = (8 - (i + 1)) + 1 by omega, List.range'_succ] at hl
        cases hl
      · omega
    subst hi8
    simp only [wp_pure']
    exact hq _ _
end GRW
/-- the tables' word of int[][], kept -/
def gd_W (U : State) : Prop := ∃ cy cA k, U.vm.findClass (FieldType.array .int).toString = some cy ∧ U.vm.classes[cA]? = some k ∧ k.kind = .array cy (.array .int) ∧ U.vm.findClass ("[" ++ (FieldType.array .int).toString) = some cA
theorem gd_W.of {args : Array Value} {U : State} (h : (Cond.arrayOver (.array .int)).before args U = true) : gd_W U := by
  unfold Cond.before at h
  simp only [Cond.holds, Cond.value, beq_iff_eq] at h
  cases hc : U.vm.findClass (FieldType.array .int).toString with
  | none => simp [hc] at h
  | some comp =>
    simp only [hc, Option.bind_some, Option.bind_eq_some_iff, Option.map_eq_some_iff] at h
    obtain ⟨c, hi, k, hk, hb⟩ := h
    obtain ⟨hlt, hp, -⟩ := Array.findIdx?_eq_some_iff_getElem.mp hi
    have hkk : U.vm.classes[c] = k := (Array.getElem?_eq_some_iff.mp hk).2
    rw [hkk] at hp
    cases hkind : k.kind with
    | array component ty =>
      rw [hkind] at hb hp
      simp at hb hp
      exact ⟨comp, c, k, hc, hk, by rw [hkind, hp, hb.1], hb.2⟩
    | _ => rw [hkind] at hb; simp at hb
theorem gd_W.moved {u U : State} (hvm : u.vm.Alike U.vm) (h : gd_W u) : gd_W U := by
  obtain ⟨cy, cA, k, h1, h2, h3, h4⟩ := h
  obtain ⟨k', hk', he⟩ := hvm.2.2 _ _ h2
  exact ⟨cy, cA, k', by rw [hvm.findClass]; exact h1, hk', by rw [he]; exact h3, by rw [hvm.findClass]; exact h4⟩
section GRS
variable {p : Program} {l : Launch} {e : Env} {R : Room} {s : State} {m : MethodId} {args : Array Value} {below : List Frame} {meth : Method} {c : Code} {T : State} {locs : List Loc} {cells slots : Nat}
theorem gd_stand (X : Stand p l e R s m args below meth c T locs cells slots) (cA cy : ClassId) : ∀ i, Stand p l e R s m args below meth c (gdS T cA cy i) (locs ++ (List.range i).map fun j => ⟨T.heap.size, j⟩) (cells + 1 + i) (slots + 8 + i * 40)
  | 0 => by
    have h := X.pushed (gdO cA T.heap.size 0)
    rw [show (gdO cA T.heap.size 0).slots.size = 8 from arrV_size _ _ _] at h
    simpa [gdS] using h
  | i + 1 => by
    have Xi := gd_stand X cA cy i
    obtain ⟨a1, a2, -⟩ := gdS_is T cA cy i
    have hc : ((gdS T cA cy i).pushCell (gdI cy)).heap[T.heap.size]? = some (gdO cA T.heap.size i) := by rw [State.heap_pushCell_of_lt (h := show T.heap.size < (gdS T cA cy i).heap.size by omega)]; exact a2
    have h := (Xi.pushed (gdI cy)).stored hc i (.ref (T.heap.size + 1 + i))
    rw [show (gdI cy).slots.size = 40 from arrV_size _ _ _, gdO_next] at h
    rw [show (locs ++ (List.range (i + 1)).map fun j => (⟨T.heap.size, j⟩ : Loc)) = (locs ++ (List.range i).map fun j => (⟨T.heap.size, j⟩ : Loc)) ++ [⟨T.heap.size, i⟩] by simp [List.range_succ, List.append_assoc], show slots + 8 + (i + 1) * 40 = slots + 8 + i * 40 + 40 by omega]
    exact h
theorem gd_step (X : Stand p l e R s m args below meth c T locs cells slots) (hexec : p.tables.exec = Jvm.exec) {own : String} {index : Nat} (hown : s.vm.findClass own = some m.cls) (hcl : (Cond.classLink own index "[[I").before args s = true) (hov : gd_W s) (har : (Cond.arrayClass .int).before args s = true) {g : JFrame} (hg : g.method = m) (hdg : decode c.code g.pc = .ok (.multianewarray index 2, 4)) {rest : List Value} (hst : g.stack = .int 40 :: .int 8 :: rest) (hc : cells + 9 ≤ R.cells) (hs : slots + 328 ≤ R.slots) :
    ∃ (vm₁ : Vm) (cA cy : ClassId), s.WarmedH vm₁ ∧ s.vm.findClass "[[I" = some cA ∧ s.vm.findClass "[I" = some cy ∧ ArrOfT s cA (.array .int) ∧ Stand p l e R s m args below meth c (gdS (T.setVm vm₁) cA cy 8) locs (cells + 9) (slots + 328) ∧
      ∀ tg, Steps p.tables e below ((gdS (T.setVm vm₁) cA cy 8).setTop { g with pc := g.pc + 4, stack := .ref T.heap.size :: rest }) tg → Steps p.tables e below (T.setTop g) tg := by
  subst hg
  have hpl : e.platform.magicAccessors = ({} : Platform).magicAccessors := by rw [X.admits.platform]
  obtain ⟨cy, cA, kA, hcy, hkA, hkdA, hnA⟩ := hov
  obtain ⟨cy', kC, cc, hcy', hkC, hkdC⟩ := Cond.arrayClass_spec har
  have ec : cy' = cy := Option.some.inj (hcy'.symm.trans hcy)
  subst ec
  obtain ⟨c0, hfc0, hlk⟩ := Cond.classLink_spec hown hcl e.platform hpl
  have hnA : s.vm.findClass "[[I" = some cA := hnA
  cases hnA.symm.trans hfc0
  obtain ⟨hg₁, hw₁, hr₁⟩ := State.classEntry (e := e) X.warmed hlk
  generalize T.vm.noted g.method.cls index (.cls cA) = vm₁ at hg₁ hw₁ hr₁
  obtain ⟨kA₁, hkA₁, heA⟩ := hw₁.alike.2.2 _ _ hkA
  obtain ⟨kC₁, hkC₁, heC⟩ := hw₁.alike.2.2 _ _ hkC
  have X₁ := X.noted hw₁
  obtain ⟨r1, r2⟩ := X.roomAbove hc hs
  have XF := gd_stand X₁ cA cy' 8
  have XG : Stand p l e R s g.method args below meth c (gdS (T.setVm vm₁) cA cy' 8) locs (cells + 9) (slots + 328) := XF.dropFresh (fun x hx => by
    obtain ⟨j, -, rfl⟩ := List.mem_map.mp hx
    exact X.heapGrown)
  refine ⟨vm₁, cA, cy', hw₁, hnA, hcy, fun n z => ⟨fun k h => (by cases h), kA, hkA, cy', hkdA⟩, XG, fun tg hrest => ?_⟩
  have hl : e.platform.arrayLengthLimit = 2147483645 := Launch.admits_arrayLengthLimit X.admits
  have hh : e.platform.maxHeapBytes = 536870912 := Launch.admits_maxHeapBytes X.admits
  jvm_step X.here [hexec, hdg]
  simp only [multianewarray.sem, wp_bind', W.resolveClassAt_links (State.method?_setTop g X.here.top) hg₁]
  rw [W.popN, if_neg (by decide)]
  refine ⟨g, State.topJava?_setTop' (s := T.setVm vm₁) g X.here.top, [.int 8, .int 40], rest, rfl, hst, ?_⟩
  simp only [List.mapM_cons, List.mapM_nil, wp_bind', wp_pure']
  refine gd_make (k := kA₁) (kc := kC₁) (cc := cc) hkA₁ (by rw [heA]; exact hkdA) hkC₁ (by rw [heC]; exact hkdC) (by rw [hl]; omega) (by rw [hh]; omega) (by show T.heap.size + 9 ≤ _; omega) (by show T.slotsUsed + 328 ≤ _; omega) (fun d' acts' => ?_)
  have eS : ((T.setTop g).setVm vm₁).setTop { g with stack := rest } = (T.setVm vm₁).setTop { g with stack := rest } := by
    show ((T.setVm vm₁).setTop g).setTop _ = _
    rw [State.setTop_setTop]
  rw [eS, gdS_top]
  simp only [wp_bind', W.mark, W.pushRef, State.topJava?_setTop' _ XG.here.top, Option.some.injEq, exists_eq_left', State.setTop_setTop, State.heap_setTop]
  intro acts
  simp [jvm, XG.here.top]
  exact hrest
end GRS
/-- the nine cells -/
def gd_ws (cA cy : ClassId) (q : Nat) : va_W := (q, .inl (cA, 8, .inr (.inr (.inr (.inr (fun i => if i < 8 then some (q + 1 + i) else none)))))) :: (List.range 8).map (fun i => (q + 1 + i, .inl (cy, 40, .inl (fun j => Int32.ofInt 0))))
theorem gd_ws_at {cA cy : ClassId} {q k : Nat} {x : Nat × va_E} (h : (gd_ws cA cy q)[k]? = some x) : k < 9 ∧ x.1 = q + k ∧ (k = 0 ∧ x = (q, .inl (cA, 8, .inr (.inr (.inr (.inr (fun i => if i < 8 then some (q + 1 + i) else none)))))) ∨ ∃ i, i < 8 ∧ k = i + 1 ∧ x = (q + 1 + i, .inl (cy, 40, .inl (fun j => Int32.ofInt 0)))) := by
  cases k with
  | zero =>
    cases h
    exact ⟨by omega, rfl, Or.inl ⟨rfl, rfl⟩⟩
  | succ k =>
    have h1 : ((List.range 8).map (fun i => ((q + 1 + i, .inl (cy, 40, .inl (fun j => Int32.ofInt 0))) : Nat × va_E)))[k]? = some x := h
    have hl := (List.getElem?_eq_some_iff.mp h1).1
    rw [List.length_map, List.length_range] at hl
    rw [List.getElem?_map, List.getElem?_range hl] at h1
    cases h1
    exact ⟨by omega, by show q + 1 + k = q + (k + 1); omega, Or.inr ⟨k, hl, rfl, rfl⟩⟩
section GRV
variable {p : Program} {l : Launch} {e : Env} {R : Room} {s : State} {m : MethodId} {args : Array Value} {below : List Frame} {meth : Method} {c : Code} {H : Heap} {locs : List Loc} {cells slots : Nat} {Q : State → Prop} {cc : ByteArray} {pc : Nat} {ls : Array Slot} {rest : List Value} {D : va_G} {cl : List vw_C} {A : Nat → Prop} {tys : List (ClassId × FieldType)} {ws : va_W} {H0 : Heap}
theorem gd_rule (hexec : p.tables.exec = Jvm.exec) (hb : c.code = cc) {own : String} {index : Nat} {cy : ClassId} (hown : s.vm.findClass own = some m.cls) (hcl : (Cond.classLink own index "[[I").before args s = true) (hov : gd_W s) (har : (Cond.arrayClass .int).before args s = true) (hcy : s.vm.findClass "[I" = some cy) (hK : va_K D cl tys s) (hP : va_P D cl ws H) (hD : va_D A ws) (hS : va_S A H0 H locs) (hA : ∀ q, H0.size ≤ q → A q) (hc : cells + 9 ≤ R.cells) (hs : slots + 328 ≤ R.slots) (hdg : decode cc pc = .ok (.multianewarray index 2, 4))
    (kk : ∀ (q : Nat) (cA : ClassId) (H1 : Heap), va_K D cl (tys ++ [(cA, .array .int)]) s → va_P D cl (ws ++ gd_ws cA cy q) H1 → va_D A (ws ++ gd_ws cA cy q) → va_S A H0 H1 locs → W p l e R s m args below meth c H1 locs (cells + 9) (slots + 328) Q (F0 m (pc + 4) ls (.ref q :: rest))) : W p l e R s m args below meth c H locs cells slots Q (F0 m pc ls (.int 40 :: .int 8 :: rest)) := by
  intro T hT X
  obtain ⟨vm₁, cA, cy', hw, f1, f2, hAr, X', st⟩ := gd_step X hexec hown hcl hov har (g := F0 m pc ls (.int 40 :: .int 8 :: rest)) rfl (by rw [hb]; exact hdg) rfl hc hs
  have ec : cy' = cy := Option.some.inj (f2.symm.trans hcy)
  subst ec
  obtain ⟨a1, a2, a3, a4, a5, a6⟩ := gdS_is (T.setVm vm₁) cA cy' 8
  have hTh : (T.setVm vm₁).heap = H := hT
  rw [hTh] at a1 a2 a5 a6
  generalize hF : gdS (T.setVm vm₁) cA cy' 8 = F at X' st a1 a2 a3 a4 a5 a6
  have hP0 : va_P D cl ws F.heap := hP.kept (fun k x hx => a5 x.1 ((hP k x hx).lt))
  have hP1 : va_P D cl (ws ++ gd_ws cA cy' H.size) F.heap := hP0.app (fun k x hx => by
    obtain ⟨-, -, h⟩ := gd_ws_at hx
    rcases h with ⟨-, rfl⟩ | ⟨i, hi, -, rfl⟩
    · show F.heap[H.size]? = some (vp_cell _ _)
      rw [a2]
      rfl
    · show F.heap[H.size + 1 + i]? = some (vp_cell _ _)
      rw [a6 i hi]
      rfl)
  have hD2 : va_D A (gd_ws cA cy' H.size) := ⟨fun i j x y hi hj hxy => by
      have h1 := (gd_ws_at hi).2.1
      have h2 := (gd_ws_at hj).2.1
      omega, fun k x hx => hA _ (by rw [(gd_ws_at hx).2.1]; have := hS.1; omega)⟩
  have hD1 : va_D A (ws ++ gd_ws cA cy' H.size) := hD.app hD2 (fun i j x y hi hj hxy => by
    have h1 := (hP i x hi).lt
    have h2 := (gd_ws_at hj).2.1
    omega)
  have hK1 : va_K D cl (tys ++ [(cA, .array .int)]) s := hK.app ⟨hK.1, fun k x hx => by
    have hz : k < 1 := (List.getElem?_eq_some_iff.mp hx).1
    rw [show k = 0 by omega] at hx
    cases hx
    exact ⟨hAr, f1⟩⟩
  obtain ⟨t, b1, b2⟩ := kk H.size cA F.heap hK1 hP1 hD1 ⟨Nat.le_trans hS.1 (by omega), fun x h1 h2 => (a5 x (Nat.lt_of_lt_of_le h1 hS.1)).trans (hS.2.1 x h1 h2), hS.2.2⟩ F rfl X'
  refine ⟨t, st t ?_, b2⟩
  have eT : T.heap.size = H.size := by rw [hT]
  rw [eT]
  exact b1
end GRV
