/-! ===== calls and returns of the small world ===== -/
theorem qgoodIn {z : qY} (h : Cond.code z.1 z.2.1 z.2.2.1 z.2.2.2 ∈ TB) : GoodIn TB (Cond.code z.1 z.2.1 z.2.2.1 z.2.2.2 :: TB) := by
  intro w hw
  rcases List.mem_cons.mp hw with rfl | hw
  · exact ⟨h, good_of_word (tb_good h)⟩
  · exact ⟨hw, good_of_word (tb_good hw)⟩
def qarg : Nat → List qV → List (Nat × qV)
  | _, [] => []
  | i, v :: vs => (i, v) :: qarg (if qcat v = 2 then i + 2 else i + 1) vs
theorem qarg_ok (ad : Nat → Nat) : ∀ (vs : List qV) (i : Nat), lv_args i (vs.map (qr ad)) = qL ad (qarg i vs)
  | [], _ => rfl
  | v :: vs, i => by
    simp only [List.map_cons, lv_args, qarg, qL]
    rw [qarg_ok ad vs, qcat_ok]
    rfl
theorem qarg_len (ad : Nat → Nat) (vs : List qV) : (lg_sl (vs.map (qr ad))).length = (vs.map qcat).sum := by
  unfold lg_sl
  induction vs with
  | nil => rfl
  | cons v vs ih =>
    simp only [List.map_cons, List.flatMap_cons, List.length_append, List.sum_cons]
    rw [ih, qcat_ok]
    rcases v with z | z | k <;> simp [qcat]
/-- a method, as a contract, over this world and these arguments -/
theorem qMet {G : qGl} {z : qY} {d : Nat} {As : List qV} {σ : qM} {Q : Option qV → qM → Prop} (hp : plainName z.1.cls = true) (hsz : (As.map qcat).sum ≤ z.2.2.1) (hE : qE G z d 0 (qarg 0 As) [] σ Q) :
    Met G.1 z.1 (Cond.code z.1 z.2.1 z.2.2.1 z.2.2.2 :: TB) { frames := d, cells := 0, slots := 0, locals := 64 * d } (va_Pc (As.map (qr G.2.2.2.1)) (fun U => qWs G U ∧ qWd G σ U U.heap)) (qQQ G Q) 0 0 (qS G) := by
  refine Met.ofW (cc := z.2.1) (maxL := z.2.2.1) (ret := z.2.2.2) hp rfl ?_
  intro p e s m args below meth c s₁ B hml hv
  obtain ⟨rfl, hWs, hWd⟩ := hv
  have hts := atoms_spec (ws := Cond.code z.1 z.2.1 z.2.2.1 z.2.2.2 :: TB) B.pre
  have hown : s.vm.findClass z.1.cls = some m.cls := findClass_of_methodNamed B.named
  have hl := lv_entry (As.map (qr G.2.2.2.1)) (n := z.2.2.1) (by rw [qarg_len]; exact hsz)
  rw [lg_entry_eq]
  rw [qarg_ok] at hl
  exact hE p e _ s m _ below meth c s.heap [] 0 0 _ ⟨B.exec, B.bytes, hml, B.returns, B.notSynchronized, hown, fun w hw => hts w (List.mem_cons_of_mem _ hw), Nat.le_refl _, Nat.le_refl _, Nat.le_refl _, Nat.le_refl _⟩ hWs hWd va_S.rf hl
theorem qblind {G : qGl} {σ : qM} {As : List Value} : FrameBlind (va_Pc As (fun U => qWs G U ∧ qWd G σ U U.heap)) := by
  intro a U g mk h
  obtain ⟨h1, h2, h3⟩ := h
  exact ⟨h1, qWs.at (locs := []) h2 (Vm.Alike.refl U.vm) va_S.rf, h3.moved (Vm.Alike.refl U.vm)⟩
/-- entry idx of class own's pool is the method z, of n parameters, called on an object -/
def qV1 (own : String) (idx : Nat) (z : qY) (n : Nat) : Prop :=
  (Cond.methodLink own idx z.1 ∈ TB ∧ Cond.instanceMethod z.1 ∈ TB ∧ Cond.selects z.1.cls z.1 z.1 ∈ TB ∧ Cond.initialized z.1.cls ∈ TB ∧ Cond.code z.1 z.2.1 z.2.2.1 z.2.2.2 ∈ TB) ∧
  (z.1.cls ≠ "java/lang/invoke/MethodHandle" ∧ z.1.cls ≠ "java/lang/invoke/VarHandle" ∧ (parseMethodDescriptor z.1.desc).map (fun d => d.parameters.length) = some n) ∧ plainName z.1.cls = true ∧ z.2.2.1 ≤ 40
/-- .. a static one -/
def qV2 (own : String) (idx : Nat) (z : qY) (n : Nat) : Prop :=
  (Cond.methodLink own idx z.1 ∈ TB ∧ Cond.static z.1 ∈ TB ∧ Cond.initialized z.1.cls ∈ TB ∧ Cond.code z.1 z.2.1 z.2.2.1 z.2.2.2 ∈ TB) ∧
  (z.1.cls ≠ "java/lang/invoke/MethodHandle" ∧ z.1.cls ≠ "java/lang/invoke/VarHandle" ∧ (parseMethodDescriptor z.1.desc).map (fun d => d.parameters.length) = some n) ∧ plainName z.1.cls = true ∧ z.2.2.1 ≤ 40
section QCL
variable {G : qGl} {y z : qY} {d pc : Nat} {L : List (Nat × qV)} {st : List qV} {σ : qM} {Q : Option qV → qM → Prop}
theorem qcats (ad : Nat → Nat) (st : List qV) : ((st.map (qr ad)).map fun v => v.category).sum = (st.map qcat).sum := by
  rw [List.map_map]
  congr 1
  apply List.map_congr_left
  intro v _
  exact qcat_ok _ v
/-- behind a call -/
theorem q_behind {p : Program} {e : Env} {R : Room} {s : State} {m : MethodId} {args : Array Value} {below : List Frame} {meth : Method} {c : Code} {H : Heap} {locs : List Loc} {k n : Nat} {ls : Array Slot} {st0 : List Value} {As : Array Value} {Z : State → Prop} {Q' : Option qV → qM → Prop}
    (hr : va_Run p G.1 e R s m args below meth c H locs k n 0 0 (F0 m pc ls st0) (st.map (qr G.2.2.2.1)) (qQQ G Q' As) (qS G)) (hS : va_S (qS G) s.heap H locs)
    (kk : ∀ (v : Option qV) (σ' : qM) (H1 : Heap) (locs1 : List Loc), Q' v σ' → qWd G σ' s H1 → va_S (qS G) s.heap H1 locs1 → W p G.1 e R s m args below meth c H1 locs1 k n Z (F0 m (pc + 3) ls ((v.toList ++ st).map (qr G.2.2.2.1)))) : W p G.1 e R s m args below meth c H locs k n Z (F0 m pc ls st0) := by
  intro T hT X
  obtain ⟨v, st₀, t, T', L', h0, X', hL, e1, e2, ⟨⟨v', σ', hv, hq, hw⟩, hz, hk⟩, go⟩ := hr T hT X
  cases hv
  rw [h0] at hz hk
  have hw' : qWd G σ' s T'.heap := by
    rw [e1]
    refine hw.moved ?_
    rw [← e2]
    exact X'.warmed.alike.symm
  obtain ⟨t2, a1, b1⟩ := kk v' σ' T'.heap (locs ++ L') hq hw'
    ⟨Nat.le_trans hS.1 (by rw [e1]; exact hz), fun q h1 h2 => by rw [e1, hk q (Nat.lt_of_lt_of_le h1 hS.1) h2]; exact hS.2.1 q h1 h2, fun q hq => by
      rcases List.mem_append.mp hq with h | h
      · exact hS.2.2 q h
      · exact hL q h⟩ T' rfl X'
  refine ⟨t2, go t2 ?_, b1⟩
  have e3 : ((v'.map (qr G.2.2.2.1)).toList ++ st.map (qr G.2.2.2.1)) = (v'.toList ++ st).map (qr G.2.2.2.1) := by
    cases v' <;> simp
  rw [e3]
  exact a1
theorem q_callV {idx n k0 ci : Nat} {fs : List (Option Nat)} {As : List qV} {S0 : List qV} (hd : decode y.2.1 pc = .ok (.invokevirtual idx, 3)) (hV : qV1 y.1.cls idx z n) (hs : qSh k0 = (0, ci, fs)) (hc : (vwCl[ci]?).map (fun q => q.1) = some z.1.cls) (hn : As.length = n) (hst : S0 = As.reverse ++ .inr (.inr k0) :: st) (hcat : (st.map qcat).sum ≤ 8) (hsz : ((vr k0 :: As).map qcat).sum ≤ z.2.2.1)
    (hE : qE G z d 0 (qarg 0 (vr k0 :: As)) [] σ (fun v σ' => qE G y (d + 1) (pc + 3) L (v.toList ++ st) σ' Q)) : qE G y (d + 1) pc L S0 σ Q := by
  subst hst
  intro p e R s m args below meth c H locs k' n' ls C Ws Wd S hl
  obtain ⟨⟨w1, w2, w3, w4, w5⟩, w6, w7, w8⟩ := hV
  have hk := qSh_lt hs (by decide)
  have he := qwld_at (cA := G.2.2.1) (ad := G.2.2.2.1) (σ := σ) hk
  rw [qcell_0 hs] at he
  obtain ⟨q, hq, hq1⟩ : ∃ q, vwCl[ci]? = some q ∧ q.1 = z.1.cls := by
    cases hci : vwCl[ci]? with
    | none => rw [hci] at hc; cases hc
    | some q => rw [hci] at hc; exact ⟨q, rfl, Option.some.inj hc⟩
  have hrec := va_recv Wd.2.1 Wd.1 hq he
  rw [hq1] at hrec
  have hR : d + 1 ≤ R.frames ∧ 8 + (z.2.2.1 + 11) + 64 * d ≤ R.locals := ⟨C.2.2.2.2.2.2.2.1, by have := C.2.2.2.2.2.2.2.2.1; omega⟩
  have hM := qMet w7 hsz hE
  have cw : CallW R s args y.1.cls z.1.cls idx z.1 z.2.1 z.2.2.1 z.2.2.2 (Cond.code z.1 z.2.1 z.2.2.1 z.2.2.2 :: TB) { frames := d, cells := 0, slots := 0, locals := 64 * d } 0 0 n :=
    ⟨callB_of n C.2.2.2.2.2.2.1 (qgoodIn w5) rfl rfl rfl (C.2.2.2.2.2.2.1 _ w4) (C.2.2.2.2.2.2.1 _ w1) w6 hR, C.2.2.2.2.2.2.1 _ w2, C.2.2.2.2.2.2.1 _ w3⟩
  have hr := va_runV (p := p) (e := e) (below := below) (meth := meth) (H := H) (locs := locs) (cells := k') (slots := n') (g := F0 m pc ls ((As.reverse ++ .inr (.inr k0) :: st).map (qr G.2.2.2.1))) (b := G.2.2.2.1 k0) (As := As.map (qr G.2.2.2.1)) (rest := st.map (qr G.2.2.2.1)) ⟨C.1, C.2.1, C.2.2.1, C.2.2.2.2.2.1, C.2.2.2.2.2.2.1⟩ hM cw
    ⟨qblind, hrec, fun U hU hW => ⟨rfl, Ws.at (locs := locs) hW.alike (by rw [hU]; exact S), by rw [hU]; exact Wd.moved hW.alike⟩⟩ rfl (by rw [List.length_map]; exact hn) hl.1 (by simp [qr]) (lv_room (by rw [qcats]; exact hcat)) hd ⟨C.2.2.2.2.2.2.2.2.2.1, C.2.2.2.2.2.2.2.2.2.2⟩
  exact q_behind hr S (fun v σ' H1 locs1 hq' hw' hS' => hq' p e R s m args below meth c H1 locs1 k' n' ls C Ws hw' hS' hl)
theorem q_callS {idx n : Nat} {As : List qV} {S0 : List qV} (hd : decode y.2.1 pc = .ok (.invokestatic idx, 3)) (hV : qV2 y.1.cls idx z n) (hn : As.length = n) (hst : S0 = As.reverse ++ st) (hcat : (st.map qcat).sum ≤ 8) (hsz : (As.map qcat).sum ≤ z.2.2.1)
    (hE : qE G z d 0 (qarg 0 As) [] σ (fun v σ' => qE G y (d + 1) (pc + 3) L (v.toList ++ st) σ' Q)) : qE G y (d + 1) pc L S0 σ Q := by
  subst hst
  intro p e R s m args below meth c H locs k' n' ls C Ws Wd S hl
  obtain ⟨⟨w1, w2, w4, w5⟩, w6, w7, w8⟩ := hV
  have hR : d + 1 ≤ R.frames ∧ 8 + (z.2.2.1 + 11) + 64 * d ≤ R.locals := ⟨C.2.2.2.2.2.2.2.1, by have := C.2.2.2.2.2.2.2.2.1; omega⟩
  have hM := qMet w7 hsz hE
  have hr := va_runS (p := p) (e := e) (below := below) (meth := meth) (H := H) (locs := locs) (cells := k') (slots := n') (g := F0 m pc ls ((As.reverse ++ st).map (qr G.2.2.2.1))) (As := As.map (qr G.2.2.2.1)) (rest := st.map (qr G.2.2.2.1)) (own := y.1.cls) ⟨C.1, C.2.1, C.2.2.1, C.2.2.2.2.2.1, C.2.2.2.2.2.2.1⟩ hM
    ⟨callB_of n C.2.2.2.2.2.2.1 (qgoodIn w5) rfl rfl rfl (C.2.2.2.2.2.2.1 _ w4) (C.2.2.2.2.2.2.1 _ w1) w6 hR, C.2.2.2.2.2.2.1 _ w2⟩
    ⟨qblind, fun U hU hW => ⟨rfl, Ws.at (locs := locs) hW.alike (by rw [hU]; exact S), by rw [hU]; exact Wd.moved hW.alike⟩⟩ rfl (by rw [List.length_map]; exact hn) hl.1 (by simp) (lv_room (by rw [qcats]; exact hcat)) hd ⟨C.2.2.2.2.2.2.2.2.2.1, C.2.2.2.2.2.2.2.2.2.2⟩
  exact q_behind hr S (fun v σ' H1 locs1 hq' hw' hS' => hq' p e R s m args below meth c H1 locs1 k' n' ls C Ws hw' hS' hl)
variable {a b : Int}
theorem q_iret (hd : decode y.2.1 pc = .ok (.ireturn, 1)) (hr : y.2.2.2 = some .int) (h : Q (some (.inl a)) σ) : qE G y d pc L [.inl a] σ Q := by
  intro p e R s m args below meth c H locs k' n' ls C Ws Wd S hl
  exact W.iret C.1 C.2.1 (C.2.2.2.1.trans hr) (fun t ht hW => ⟨⟨some (.inl a), σ, rfl, h, by rw [ht]; exact Wd.moved hW.alike⟩, S.F ht⟩) S.2.2 hd C.2.2.2.2.1
theorem q_zret (hd : decode y.2.1 pc = .ok (.ireturn, 1)) (hr : y.2.2.2 = some .boolean) (h01 : a = 0 ∨ a = 1) (h : Q (some (.inl a)) σ) : qE G y d pc L [.inl a] σ Q := by
  intro p e R s m args below meth c H locs k' n' ls C Ws Wd S hl
  exact W.zret C.1 C.2.1 (C.2.2.2.1.trans hr) (by rcases h01 with rfl | rfl <;> decide +kernel) (fun t ht hW => ⟨⟨some (.inl a), σ, rfl, h, by rw [ht]; exact Wd.moved hW.alike⟩, S.F ht⟩) S.2.2 hd C.2.2.2.2.1
theorem q_lret (hd : decode y.2.1 pc = .ok (.lreturn, 1)) (hr : y.2.2.2 = some .long) (h : Q (some (.inr (.inl a))) σ) : qE G y d pc L [.inr (.inl a)] σ Q := by
  intro p e R s m args below meth c H locs k' n' ls C Ws Wd S hl
  exact W.lret C.1 C.2.1 (C.2.2.2.1.trans hr) (fun t ht hW => ⟨⟨some (.inr (.inl a)), σ, rfl, h, by rw [ht]; exact Wd.moved hW.alike⟩, S.F ht⟩) S.2.2 hd C.2.2.2.2.1
theorem q_aret {k : Nat} {nm : String} (hd : decode y.2.1 pc = .ok (.areturn, 1)) (hr : y.2.2.2 = some (.object nm)) (h : Q (some (.inr (.inr k))) σ) : qE G y d pc L [.inr (.inr k)] σ Q := by
  intro p e R s m args below meth c H locs k' n' ls C Ws Wd S hl
  exact W.aret C.1 C.2.1 (C.2.2.2.1.trans hr) (Or.inl ⟨nm, rfl⟩) (Or.inr ⟨_, rfl⟩) (fun t ht hW => ⟨⟨some (.inr (.inr k)), σ, rfl, h, by rw [ht]; exact Wd.moved hW.alike⟩, S.F ht⟩) S.2.2 hd C.2.2.2.2.1
theorem q_vret (hd : decode y.2.1 pc = .ok (.return_, 1)) (hr : y.2.2.2 = none) (h : Q none σ) : qE G y d pc L [] σ Q := by
  intro p e R s m args below meth c H locs k' n' ls C Ws Wd S hl
  exact W.vret C.1 C.2.1 (C.2.2.2.1.trans hr) (fun t ht hW => ⟨⟨none, σ, rfl, h, by rw [ht]; exact Wd.moved hW.alike⟩, S.F ht⟩) S.2.2 hd C.2.2.2.2.1
/-- Math.max, min, abs -/
theorem q_max {idx : Nat} (hd : decode y.2.1 pc = .ok (.invokestatic idx, 3)) (hw : Cond.methodLink y.1.cls idx Lib.Math.max.name ∈ TB) (hw2 : Cond.static Lib.Math.max.name ∈ TB) (hw3 : Cond.initialized "java/lang/Math" ∈ TB) (hw4 : Cond.code Lib.Math.max.name Lib.Math.max.code 2 (some .int) ∈ TB) (ha : -2147483648 ≤ a ∧ a ≤ 2147483647) (hb : -2147483648 ≤ b ∧ b ≤ 2147483647) (hcat : (st.map qcat).sum ≤ 8) (hd1 : 1 ≤ d)
    (kk : qE G y d (pc + 3) L (.inl (if a < b then b else a) :: st) σ Q) : qE G y d pc L (.inl b :: .inl a :: st) σ Q := by
  intro p e R s m args below meth c H locs k' n' ls C Ws Wd S hl
  refine va_mmax C.1 C.2.1 (C.2.2.1.trans hl.1.symm) C.2.2.2.2.2.1 (C.2.2.2.2.2.2.1 _ hw) (C.2.2.2.2.2.2.1 _ hw2) (C.2.2.2.2.2.2.1 _ hw3) (C.2.2.2.2.2.2.1 _ hw4) (Nat.le_trans hd1 C.2.2.2.2.2.2.2.1) (by have := C.2.2.2.2.2.2.2.2.1; rw [qcats]; omega) C.2.2.2.2.2.2.2.2.2.1 C.2.2.2.2.2.2.2.2.2.2 hd ?_
  have e1 : (if Int32.ofInt a < Int32.ofInt b then Int32.ofInt b else Int32.ofInt a) = Int32.ofInt (if a < b then b else a) := by
    simp only [qI_lt ha hb]; split <;> rfl
  rw [e1]
  exact kk p e R s m args below meth c H locs k' n' ls C Ws Wd S hl
theorem q_min {idx : Nat} (hd : decode y.2.1 pc = .ok (.invokestatic idx, 3)) (hw : Cond.methodLink y.1.cls idx Lib.Math.min.name ∈ TB) (hw2 : Cond.static Lib.Math.min.name ∈ TB) (hw3 : Cond.initialized "java/lang/Math" ∈ TB) (hw4 : Cond.code Lib.Math.min.name Lib.Math.min.code 2 (some .int) ∈ TB) (ha : -2147483648 ≤ a ∧ a ≤ 2147483647) (hb : -2147483648 ≤ b ∧ b ≤ 2147483647) (hcat : (st.map qcat).sum ≤ 8) (hd1 : 1 ≤ d)
    (kk : qE G y d (pc + 3) L (.inl (if b < a then b else a) :: st) σ Q) : qE G y d pc L (.inl b :: .inl a :: st) σ Q := by
  intro p e R s m args below meth c H locs k' n' ls C Ws Wd S hl
  refine va_mmin C.1 C.2.1 (C.2.2.1.trans hl.1.symm) C.2.2.2.2.2.1 (C.2.2.2.2.2.2.1 _ hw) (C.2.2.2.2.2.2.1 _ hw2) (C.2.2.2.2.2.2.1 _ hw3) (C.2.2.2.2.2.2.1 _ hw4) (Nat.le_trans hd1 C.2.2.2.2.2.2.2.1) (by have := C.2.2.2.2.2.2.2.2.1; rw [qcats]; omega) C.2.2.2.2.2.2.2.2.2.1 C.2.2.2.2.2.2.2.2.2.2 hd ?_
  have e1 : (if Int32.ofInt b < Int32.ofInt a then Int32.ofInt b else Int32.ofInt a) = Int32.ofInt (if b < a then b else a) := by
    simp only [qI_lt hb ha]; split <;> rfl
  rw [e1]
  exact kk p e R s m args below meth c H locs k' n' ls C Ws Wd S hl
theorem q_abs {idx : Nat} (hd : decode y.2.1 pc = .ok (.invokestatic idx, 3)) (hw : Cond.methodLink y.1.cls idx Lib.Math.abs.name ∈ TB) (hw2 : Cond.static Lib.Math.abs.name ∈ TB) (hw3 : Cond.initialized "java/lang/Math" ∈ TB) (hw4 : Cond.code Lib.Math.abs.name Lib.Math.abs.code 1 (some .int) ∈ TB) (ha : -2147483648 ≤ a ∧ a ≤ 2147483647) (hcat : (st.map qcat).sum ≤ 8) (hd1 : 1 ≤ d)
    (kk : qE G y d (pc + 3) L (.inl (if 0 ≤ a then a else -a) :: st) σ Q) : qE G y d pc L (.inl a :: st) σ Q := by
  intro p e R s m args below meth c H locs k' n' ls C Ws Wd S hl
  refine va_mabs C.1 C.2.1 (C.2.2.1.trans hl.1.symm) C.2.2.2.2.2.1 (C.2.2.2.2.2.2.1 _ hw) (C.2.2.2.2.2.2.1 _ hw2) (C.2.2.2.2.2.2.1 _ hw3) (C.2.2.2.2.2.2.1 _ hw4) (Nat.le_trans hd1 C.2.2.2.2.2.2.2.1) (by have := C.2.2.2.2.2.2.2.2.1; rw [qcats]; omega) C.2.2.2.2.2.2.2.2.2.1 C.2.2.2.2.2.2.2.2.2.2 hd ?_
  have e1 : (if 0 ≤ Int32.ofInt a then Int32.ofInt a else 0 - Int32.ofInt a) = Int32.ofInt (if 0 ≤ a then a else -a) := by
    rw [qI_0]
    simp only [qI_le (a := 0) ⟨by omega, by omega⟩ ha, ← Int32.ofInt_sub]
    split
    · rfl
    · rw [Int.zero_sub]
  rw [e1]
  exact kk p e R s m args below meth c H locs k' n' ls C Ws Wd S hl
/-- switches -/
theorem q_tsIn {dflt lo hi off : Int} {offs : Array Int} {len tgt : Nat} (hd : decode y.2.1 pc = .ok (.tableswitch dflt lo hi offs, len)) (ha : -2147483648 ≤ a ∧ a ≤ 2147483647) (h1 : lo ≤ a) (h2 : a ≤ hi) (ho : offs[(a - lo).toNat]? = some off) (ht : (pc : Int) + off = (tgt : Int)) (k : qE G y d tgt L st σ Q) : qE G y d pc L (.inl a :: st) σ Q :=
  fun p e R s m args below meth c H locs k' n' ls C Ws Wd S hl => lv_tableIn C.1 C.2.1 hd (by rw [qI_t ha]; omega) (by rw [qI_t ha]; omega) (by rw [qI_t ha]; exact ho) ht (k p e R s m args below meth c H locs k' n' ls C Ws Wd S hl)
theorem q_tsOut {dflt lo hi : Int} {offs : Array Int} {len tgt : Nat} (hd : decode y.2.1 pc = .ok (.tableswitch dflt lo hi offs, len)) (ha : -2147483648 ≤ a ∧ a ≤ 2147483647) (h1 : a < lo ∨ hi < a) (ht : (pc : Int) + dflt = (tgt : Int)) (k : qE G y d tgt L st σ Q) : qE G y d pc L (.inl a :: st) σ Q :=
  fun p e R s m args below meth c H locs k' n' ls C Ws Wd S hl => lv_tableOut C.1 C.2.1 hd (by rw [qI_t ha]; exact h1) ht (k p e R s m args below meth c H locs k' n' ls C Ws Wd S hl)
theorem q_lsw {dflt off : Int} {ps : Array (Int × Int)} {len tgt : Nat} (hd : decode y.2.1 pc = .ok (.lookupswitch dflt ps, len)) (ha : -2147483648 ≤ a ∧ a ≤ 2147483647) (hp : (ps.toList.zip (ps.toList.drop 1)).all (fun (a, next) => a.1 < next.1) = true) (ho : Op.lookupswitch.offset ps.toList dflt a = off) (ht : (pc : Int) + off = (tgt : Int)) (k : qE G y d tgt L st σ Q) : qE G y d pc L (.inl a :: st) σ Q :=
  fun p e R s m args below meth c H locs k' n' ls C Ws Wd S hl => lv_lookup C.1 C.2.1 hd hp (by rw [qI_t ha]; exact ho) ht (k p e R s m args below meth c H locs k' n' ls C Ws Wd S hl)
end QCL
