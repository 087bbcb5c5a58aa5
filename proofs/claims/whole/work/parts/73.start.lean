/-! ===== the law's start ===== -/
/-- a table of the class Asker at the start -/
theorem tab_at {b : Nat} {s : State} {A : Nat → Prop} {nm : String} {i : Nat} (hl : (Cond.laysStatic RX1 nm "[I").before #[Value.ref b] s = true) (hini : (Cond.initialized RX1).before #[Value.ref b] s = true) (harr : (Cond.arrayOf (.static RX1 nm "[I") .int).before #[Value.ref b] s = true) (hlen : (Cond.eq (.length (.static RX1 nm "[I")) (.int (Int32.ofNat 6))).before #[Value.ref b] s = true) (hel : ∀ j : Nat, j < 6 → (Cond.eq (.elem (.static RX1 nm "[I") (.int (Int32.ofNat j))) (.int (Int32.ofInt (qtb i j)))).before #[Value.ref b] s = true) (hA : ∀ a : Nat, a < s.heap.size → ¬ A a) :
    ∃ t : Nat, va_Z RX1 nm "[I" (.ref t) A s s.heap ∧ va_T .int t 6 (fun j => .int (Int32.ofInt (qtb i j))) A s s.heap := by
  obtain ⟨t, ht, hT⟩ := va_Tof (f := fun j => .int (Int32.ofInt (qtb i j))) (A := A) (by decide) harr (va_eqt hlen) (fun j hj => va_eqt (hel j hj)) hA
  exact ⟨t, va_Zref hl hini ht hA, hT⟩
theorem tabs {b : Nat} {s : State} {A : Nat → Prop} (hts : ∀ w ∈ lw_tbl, w.before #[Value.ref b] s = true) (hgv : (Jvm.Cond.and given_1 narrow_1).before #[Value.ref b] s = true) (hA : ∀ a : Nat, a < s.heap.size → ¬ A a) :
    ∃ tb : Nat → Nat, ∀ i, i < 3 → va_Z RX1 (qtn i) "[I" (.ref (tb i)) A s s.heap ∧ va_T .int (tb i) 6 (fun j => .int (Int32.ofInt (qtb i j))) A s s.heap := by
  have hs := flat_of_before _ hgv
  have hini := hts (.initialized RX1) (List.mem_of_getElem? (i := 56) (by decide +kernel))
  obtain ⟨t0, h0⟩ := tab_at (nm := "NEAREST") (i := 0) (hts _ (List.mem_of_getElem? (i := 774) (by decide +kernel))) hini (hs _ (by decide +kernel)) (hs _ (by decide +kernel)) (fun j hj => by
    rcases (show j = 0 ∨ j = 1 ∨ j = 2 ∨ j = 3 ∨ j = 4 ∨ j = 5 by omega) with rfl | rfl | rfl | rfl | rfl | rfl <;> exact hs _ (by decide +kernel)) hA
  obtain ⟨t1, h1⟩ := tab_at (nm := "SIZE_BODIES") (i := 1) (hts _ (List.mem_of_getElem? (i := 787) (by decide +kernel))) hini (hs _ (by decide +kernel)) (hs _ (by decide +kernel)) (fun j hj => by
    rcases (show j = 0 ∨ j = 1 ∨ j = 2 ∨ j = 3 ∨ j = 4 ∨ j = 5 by omega) with rfl | rfl | rfl | rfl | rfl | rfl <;> exact hs _ (by decide +kernel)) hA
  obtain ⟨t2, h2⟩ := tab_at (nm := "MARK_BODIES") (i := 2) (hts _ (List.mem_of_getElem? (i := 789) (by decide +kernel))) hini (hs _ (by decide +kernel)) (hs _ (by decide +kernel)) (fun j hj => by
    rcases (show j = 0 ∨ j = 1 ∨ j = 2 ∨ j = 3 ∨ j = 4 ∨ j = 5 by omega) with rfl | rfl | rfl | rfl | rfl | rfl <;> exact hs _ (by decide +kernel)) hA
  refine ⟨fun i => match i with | 0 => t0 | 1 => t1 | _ => t2, fun i hi => ?_⟩
  rcases (show i = 0 ∨ i = 1 ∨ i = 2 by omega) with rfl | rfl | rfl
  · exact h0
  · exact h1
  · exact h2
/-- the classes' numbers and slots -/
theorem known {b : Nat} {s : State} (htb : ∀ w ∈ TB, w.before #[Value.ref b] s = true) : ∃ D : va_G, va_K D vwCl [] s := by
  obtain ⟨c0, i0, k0⟩ := u_known (n := 3) htb inlX0 (htb (.instantiable RX0 3) (tb_at 199 (by decide +kernel) (by decide +kernel)))
  obtain ⟨c1, i1, k1⟩ := u_known (n := 2) htb inlX1 (htb (.instantiable RX1 2) (tb_at 244 (by decide +kernel) (by decide +kernel)))
  obtain ⟨c2, i2, k2⟩ := u_known (n := 5) htb inlX2 (htb (.instantiable RX2 5) (tb_at 216 (by decide +kernel) (by decide +kernel)))
  obtain ⟨c3, i3, k3⟩ := u_known (n := 3) htb inlX3 (htb (.instantiable RX3 3) (tb_at 70 (by decide +kernel) (by decide +kernel)))
  obtain ⟨c4, i4, k4⟩ := u_known (n := 11) htb inlX4 (htb (.instantiable RX4 11) (tb_at 112 (by decide +kernel) (by decide +kernel)))
  obtain ⟨c5, i5, k5⟩ := u_known (n := 2) htb inlX5 (htb (.instantiable RX5 2) (tb_at 118 (by decide +kernel) (by decide +kernel)))
  obtain ⟨c6, i6, k6⟩ := u_known (n := 4) htb inlX6 (htb (.instantiable RX6 4) (tb_at 90 (by decide +kernel) (by decide +kernel)))
  obtain ⟨c7, i7, k7⟩ := u_known (n := 10) htb inlX7 (htb (.instantiable RX7 10) (tb_at 62 (by decide +kernel) (by decide +kernel)))
  obtain ⟨c8, i8, k8⟩ := u_known (n := 25) htb inlX8 (htb (.instantiable RX8 25) (tb_at 820 (by decide +kernel) (by decide +kernel)))
  refine ⟨(fun c => [c0, c1, c2, c3, c4, c5, c6, c7, c8].getD c 0, fun c => [i0, i1, i2, i3, i4, i5, i6, i7, i8].getD c (fun _ => 0)), fun c q hq => ?_, fun k q hq => by cases hq⟩
  match c, hq with
  | 0, hq => cases hq; exact k0
  | 1, hq => cases hq; exact k1
  | 2, hq => cases hq; exact k2
  | 3, hq => cases hq; exact k3
  | 4, hq => cases hq; exact k4
  | 5, hq => cases hq; exact k5
  | 6, hq => cases hq; exact k6
  | 7, hq => cases hq; exact k7
  | 8, hq => cases hq; exact k8
  | n + 9, hq => cases hq
theorem tables {b : Nat} {s : State} (hts : ∀ w ∈ lw_tbl, w.before #[Value.ref b] s = true) : ∃ (D : va_G) (cI : ClassId), bX D cI s := by
  have htb : ∀ w ∈ TB, w.before #[Value.ref b] s = true := fun w hw => hts w (tb_in hw)
  obtain ⟨D, hK⟩ := known htb
  obtain ⟨cI, kA, comp, h1, h2, h3⟩ := Cond.arrayClass_spec (htb _ tb_ai)
  refine ⟨D, cI, ⟨hK.1, fun k x hx => ?_⟩, va_AO.of (hts _ (List.mem_of_getElem? (i := 197) (by decide +kernel))), va_AO.of (hts _ (List.mem_of_getElem? (i := 223) (by decide +kernel))), gd_W.of (hts _ (List.mem_of_getElem? (i := 76) (by decide +kernel))), ?_⟩
  · have hz : k < 1 := (List.getElem?_eq_some_iff.mp hx).1
    rw [show k = 0 by omega] at hx
    cases hx
    exact ⟨fun n z => ⟨fun k h => (by cases h), kA, h2, comp, h3⟩, h1⟩
  · have go : ∀ (q : String × Nat × MethodName) (i : Nat), lw_tbl[i]? = some (Cond.methodLinkNest q.1 q.2.1 q.2.2 RX7) → va_Nw (.methodLinkNest q.1 q.2.1 q.2.2 RX7) s := fun q i h => va_Nw.of rfl (hts _ (List.mem_of_getElem? h))
    exact List.forall_mem_cons.mpr ⟨go _ 71 (by decide +kernel), List.forall_mem_cons.mpr ⟨go _ 91 (by decide +kernel), List.forall_mem_cons.mpr ⟨go _ 113 (by decide +kernel), List.forall_mem_cons.mpr ⟨go _ 119 (by decide +kernel), List.forall_mem_cons.mpr ⟨go _ 200 (by decide +kernel), List.forall_mem_cons.mpr ⟨go _ 217 (by decide +kernel), List.forall_mem_cons.mpr ⟨go _ 222 (by decide +kernel), List.forall_mem_cons.mpr ⟨go _ 245 (by decide +kernel), fun _ h => absurd h List.not_mem_nil⟩⟩⟩⟩⟩⟩⟩⟩
/-- a public constructor, called by the law -/
theorem ctor_run {l : Launch} {D : va_G} {cI : ClassId} {z : qY} {d rc rs q idx pc : Nat} {w0 : va_W} {obj : va_E} {Q : va_W → bT → Prop} {p : Program} {e : Env} {R : Room} {s : State} {m : MethodId} {args : Array Value} {below : List Frame} {meth : Method} {c : Code} {H : Heap} {locs : List Loc} {k n nL : Nat} {ls : Array Slot} {st : List Value} {Z : State → Prop} {A : Nat → Prop} {cc : ByteArray} {own : String}
    (hx : p.tables.exec = Jvm.exec) (hb : c.code = cc) (hml : c.maxLocals = nL) (hown : s.vm.findClass own = some m.cls) (htb : ∀ w ∈ TB, w.before args s = true) (hV : bV z) (hw : Cond.methodLink own idx z.1 ∈ TB) (X : bX D cI s) (P : va_P D vwCl (w0 ++ [(q, obj)]) H) (DD : va_D A (w0 ++ [(q, obj)])) (S : va_S A s.heap H locs) (hA : ∀ x, s.heap.size ≤ x → A x) (hls : ls.size = nL) (hst : (st.map fun v => v.category).sum ≤ 8) (hR : d + 1 ≤ R.frames ∧ 20 + 64 * d ≤ R.locals) (hk : k + rc ≤ R.cells ∧ n + rs ≤ R.slots) (hdg : decode cc pc = .ok (.invokespecial idx, 3)) (hE : bE l D cI z d rc rs 0 q [] w0 [(q, obj)] [] Q)
    (kk : ∀ (w' : va_W) (t' : bT) (H1 : Heap) (locs1 : List Loc), Q w' t' → va_P D vwCl (w0 ++ w') H1 → va_D A (w0 ++ w') → va_K D vwCl t' s → va_S A s.heap H1 locs1 → W p l e R s m args below meth c H1 locs1 (k + rc) (n + rs) Z (F0 m (pc + 3) ls st)) : W p l e R s m args below meth c H locs k n Z (F0 m pc ls (.ref q :: st)) := by
  obtain ⟨v1, v2, v3, v4, v5, v6, v7, v8⟩ := hV
  have hM := bMet (sz := H.size) (A := A) v7 v5 (fun x h => hA x (Nat.le_trans S.1 h)) hE
  have v3' := qgoodIn v3
  have hr := va_runI (p := p) (e := e) (below := below) (meth := meth) (H := H) (locs := locs) (cells := k) (slots := n) (g := F0 m pc ls (.ref q :: st)) (b := q) (As := []) (rest := st) (bytes := z.2.1) (maxL := z.2.2.1) (own := own) (index := idx) (n := 0) ⟨hx, hb, hml, hown, htb⟩ hM
    (cwI 0 htb (by rw [v6] at v3'; rw [v6]; exact v3') (by rw [v6]) rfl rfl (htb _ v2) (htb _ hw) (htb _ v1) v4 v8 ⟨hR.1, by rw [v5]; show 8 + (1 + 11) + 64 * d ≤ _; omega⟩)
    ⟨bblind, fun U hU hW => ⟨rfl, by rw [hU], X.warm hW, by rw [hU]; exact P, DD⟩⟩ rfl rfl hls rfl (lv_room hst) hdg hk
  exact b_behind hr S kk
/-- the end of the law -/
theorem law_end {G : qGl} {s t : State} {below : List Frame} {args : Array Value} {k n : Nat} (hk : k ≤ 600000) (hn : n ≤ 7302250) (hS : ∀ q, qS G q → s.heap.size ≤ q) (h : MQ below (qQQ G (ri fun r _ => r = 1)) args s k n (qS G) t) : lw_Z below args s t := by
  obtain ⟨o, h1, h2, ⟨⟨v, σ', e1, ⟨r, e2, e3⟩, -⟩, -⟩, Lc, hF, hq⟩ := h
  subst e3
  subst e2
  subst e1
  refine ⟨_, h1, h2, rfl, hF.1, hF.2.1, hF.2.2.weaken (fun y hy hlt => ?_) hk hn⟩
  exact absurd hlt (Nat.not_lt.mpr (hS _ (hq y hy)))
set_option maxHeartbeats 8000000 in
set_option maxRecDepth 20000 in
theorem whole_start {p : Program} {e : Env} {s : State} {m : MethodId} {below : List Frame} {meth : Method} {c : Code} (l : Launch) {b L : Nat} {xs : Nat → Int32} (hL : L ≤ 384) (C0 : lw_At p s m meth c b L xs) : W p l e room_1 s m #[Value.ref b] below meth c s.heap [] 0 0 (lw_Z below #[Value.ref b] s) (entryFrame m ([Value.ref b] : List Value).toArray 4) := by
  obtain ⟨hx, hb, hr, hml, hown, hts, hX, hbl, hlocks, hgv⟩ := C0
  have htb : ∀ w ∈ TB, w.before #[Value.ref b] s = true := fun w hw => hts w (tb_in hw)
  obtain ⟨D, cI, X⟩ := tables hts
  have hA : ∀ q, s.heap.size ≤ q → (fun q : Nat => s.heap.size ≤ q) q := fun q h => h
  have hA2 : ∀ a : Nat, a < s.heap.size → ¬ (fun q : Nat => s.heap.size ≤ q) a := fun a h1 h2 => absurd h1 (Nat.not_lt.mpr h2)
  obtain ⟨tb, htab⟩ := tabs hts hgv hA2
  generalize hAe : (fun q : Nat => s.heap.size ≤ q) = A at hA hA2 htab
  have hAq : ∀ q, A q → s.heap.size ≤ q := fun q h => by rw [← hAe] at h; exact h
  have K0 : va_K D vwCl [] s := ⟨X.1.1, fun k q h => by cases h⟩
  have P0 : va_P D vwCl [] s.heap := fun k q h => by cases h
  have D0 : va_D A [] := ⟨fun i j p q h => (by cases h), fun k q h => (by cases h)⟩
  have S0 : va_S A s.heap s.heap [] := va_S.rf
  have hl := lv_entry ([.ref b]) (n := 4) (Nat.le_of_ble_eq_true rfl)
  rw [lg_entry_eq]
  generalize (lg_sl ([.ref b]) ++ List.replicate (4 - (lg_sl ([.ref b])).length) Slot.unset).toArray = ls at hl ⊢
  have hl : lv_has ls 4 [(0, .ref b)] := hl
  have hown : s.vm.findClass RL = some m.cls := hown
  have hb : c.code = cL_law := hb
  refine va_new (own := RL) (ci := 7) (fs := [.null, .null, .null, .null, .null, .null, .null, .null, .int (Int32.ofInt 0), .int (Int32.ofInt 0)]) hx hb htb inlX7 tyX7 tyX7_ok hown (htb _ (tb_at 61 (by decide +kernel) (by decide +kernel))) (htb _ (tb_at 62 (by decide +kernel) (by decide +kernel))) (htb _ (tb_at 49 (by decide +kernel) (by decide +kernel))) K0 P0 D0 S0 hA rfl dfX7 (by decide) (by decide) dL_law_0 (fun h7 H1 P1 D1 S1 => ?_)
  refine lv_dup hx hb dL_law_3 rfl ?_
  refine ctor_run (w0 := []) (z := mX7_init) (d := 3) (rc := 81) (rs := 1117) (own := RL) hx hb hml hown htb bvX7 (tb_at 63 (by decide +kernel) (by decide +kernel)) X P1 D1 S1 hA hl.1 (Nat.le_of_ble_eq_true rfl) ⟨by decide, by decide⟩ ⟨by decide, by decide⟩ dL_law_4 (n_X7 (d := 0)) (fun w7 t7 H2 locs2 hw7 P2 D2 K2 S2 => ?_)
  refine lv_astore_n hx hb dL_law_7 rfl hl (by decide) rfl (fun ls1 hl1 => ?_)
  have P2 : va_P D vwCl w7 H2 := P2
  have D2 : va_D A w7 := D2
  refine va_new (own := RL) (ci := 8) (fs := [.int (Int32.ofInt 0), .int (Int32.ofInt 0), .null, .null, .null, .null, .null, .null, .null, .int (Int32.ofInt 0), .null, .int (Int32.ofInt 0), .int (Int32.ofInt 0), .int (Int32.ofInt 0), .int (Int32.ofInt 0), .int (Int32.ofInt 0), .int (Int32.ofInt 0), .int (Int32.ofInt 0), .int (Int32.ofInt 0), .null, .null, .null, .null, .null, .int (Int32.ofInt 0)]) hx hb htb inlX8 tyX8 tyX8_ok hown (htb _ (tb_at 819 (by decide +kernel) (by decide +kernel))) (htb _ (tb_at 820 (by decide +kernel) (by decide +kernel))) (htb _ (tb_at 57 (by decide +kernel) (by decide +kernel))) K0 P2 D2 S2 hA rfl dfX8 (by decide) (by decide) dL_law_8 (fun h8 H3 P3 D3 S3 => ?_)
  refine lv_dup hx hb dL_law_11 rfl ?_
  refine ctor_run (w0 := w7) (z := mX8_init) (d := 1) (rc := 13) (rs := 1740) (own := RL) hx hb hml hown htb bvX8 (tb_at 821 (by decide +kernel) (by decide +kernel)) X P3 D3 S3 hA hl1.1 (Nat.le_of_ble_eq_true rfl) ⟨by decide, by decide⟩ ⟨by decide, by decide⟩ dL_law_12 (n_X8 (d := 0)) (fun w8 t8 H4 locs4 hw8 P4 D4 K4 S4 => ?_)
  refine lv_astore_n hx hb dL_law_15 rfl hl1 (by decide) rfl (fun ls2 hl2 => ?_)
  refine lv_iconst hx hb dL_law_16 rfl ?_
  refine lv_istore_n hx hb dL_law_17 rfl hl2 (by decide) rfl (fun ls3 hl3 => ?_)
  obtain ⟨ad, cA, Pw, Kw, inj, hin, a0, a82, a96, atb⟩ := wld0 hw7 hw8 P4 D4 X.1 (K2.app K4) b tb
  refine va_forget (fun q hq => hAq _ (S4.2.2 q hq)) ?_
  have hS : ∀ q, qS (l, D, cA, ad, L, xs) q → s.heap.size ≤ q := fun q hq => by
    obtain ⟨k, hk, rfl⟩ := hq
    exact hAq _ (hin k hk)
  have hSA : ∀ q, qS (l, D, cA, ad, L, xs) q → A q := fun q hq => hA q (hS q hq)
  have E := l_loop (G := (l, D, cA, ad, L, xs)) (d := 0) hL L 0 σ0 A0 CR0 MR0 AV0 (Int.le_refl 0) (by show (L : Int) ≤ 0 + L; omega) (by omega)
  have K := E p e room_1 s m #[Value.ref b] below meth c H4 [] (0 + 1 + 81 + 1 + 13) (0 + 10 + 1117 + 25 + 1740) ls3 ⟨hx, hb, hml, hr, hlocks, hown, htb, by decide, by decide, by decide, by decide⟩ ⟨by rw [show (l, D, cA, ad, L, xs).2.2.2.1 96 = b from a96]; exact hX, fun q => by
      have h1 := hS _ q
      rw [show (l, D, cA, ad, L, xs).2.2.2.1 96 = b from a96] at h1
      omega, fun i hi => by
      rw [show (l, D, cA, ad, L, xs).2.2.2.1 (97 + i) = tb i from atb i]
      exact ⟨(htab i hi).1.narrow hSA, (htab i hi).2.narrow hSA⟩⟩ ⟨Pw, Kw, inj⟩ ⟨S4.1, fun q h1 h2 => S4.2.1 q h1 (hA2 q h1), fun l h => by cases h⟩ (by
      show lv_has ls3 4 [(3, .int (Int32.ofInt 0)), (2, .ref (ad 82)), (1, .ref (ad 0)), (0, .ref (ad 96))]
      rw [a82, a0, a96]
      exact hl3)
  intro T hT XX
  obtain ⟨t, a1, b1⟩ := K T hT XX
  exact ⟨t, a1, law_end (by decide) (by decide) hS b1⟩
