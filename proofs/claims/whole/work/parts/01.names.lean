/-! ===== BEGIN words of one list among another's, by their places ===== -/
theorem goodIn_r {big : List Cond} (ws : List Cond) (ps : List Nat) (hp : ws = ps.filterMap (fun i => big[i]?)) (h : ws.all goodWord = true) : GoodIn big ws := by
  intro w hw
  have h1 := List.all_eq_true.mp h w hw
  rw [hp] at hw
  obtain ⟨i, -, hi⟩ := List.mem_filterMap.mp hw
  have hm : w ∈ big := by first | exact List.mem_of_getElem? hi | exact List.getElem?_mem hi
  exact ⟨hm, good_of_word h1⟩
theorem goodIn_app {big a b : List Cond} (ha : GoodIn big a) (hb : GoodIn big b) : GoodIn big (a ++ b) := fun w h => (List.mem_append.mp h).elim (ha w) (hb w)
theorem goodIn_ca {big a b : List Cond} {c : Cond} (ha : GoodIn big (c :: a)) (hb : GoodIn big b) : GoodIn big (c :: (a ++ b)) := fun w h => (List.mem_cons.mp h).elim (fun e => ha w (List.mem_cons.mpr (Or.inl e))) (fun h => (List.mem_append.mp h).elim (fun h => ha w (List.mem_cons.mpr (Or.inr h))) (hb w))
theorem goodIn_sub {big ws : List Cond} (hm : ∀ w ∈ ws, w ∈ big) (h : ws.all goodWord = true) : GoodIn big ws := fun w hw => ⟨hm w hw, good_of_word (List.all_eq_true.mp h w hw)⟩
/-! ===== END ===== -/

/-! ===== BEGIN new T[n][m]: the outer array a place, the inner ones among the pooled ===== -/
/-- f, but v at every address of l -/
def vr_up {α : Type} (f : Nat → α) (l : List Nat) (v : α) : Nat → α := fun a => if a ∈ l then v else f a
theorem vr_up_in {α : Type} {f : Nat → α} {l : List Nat} {v : α} {a : Nat} (h : a ∈ l) : vr_up f l v a = v := if_pos h
theorem vr_up_ne {α : Type} {f : Nat → α} {l : List Nat} {v : α} {a : Nat} (h : a ∉ l) : vr_up f l v a = f a := if_neg h
theorem vr_rows {L l : List Nat} {f : Nat → va_E} {e : va_E} (h : ∀ a, a ∈ l → a ∉ L) : va_pl L f ++ l.map (fun a => (a, e)) = va_pl (L ++ l) (vr_up f l e) := by
  unfold va_pl
  rw [List.map_append]
  congr 1
  · apply List.map_congr_left
    intro a ha
    rw [vr_up_ne (fun q => h a q ha)]
  · apply List.map_congr_left
    intro a ha
    rw [vr_up_in ha]
theorem vr_lay {X rows : va_W} {x : Nat × va_E} {pl : va_W} {D : va_G} {cl : List vw_C} {H : Heap} (hP : va_P D cl (((X ++ pl) ++ [x]) ++ rows) H) : va_P D cl ((X ++ [x]) ++ (pl ++ rows)) H := by
  rw [List.append_assoc (X ++ pl)] at hP
  have h := va_P.swap hP
  rw [← List.append_assoc X] at h
  have h2 := va_P.swap h
  rw [List.append_assoc (X ++ [x])] at h2
  exact h2
theorem vr_layD {X rows : va_W} {x : Nat × va_E} {pl : va_W} {A : Nat → Prop} (hD : va_D A (((X ++ pl) ++ [x]) ++ rows)) : va_D A ((X ++ [x]) ++ (pl ++ rows)) := by
  rw [List.append_assoc (X ++ pl)] at hD
  have h := va_D.swap hD
  rw [← List.append_assoc X] at h
  have h2 := va_D.swap h
  rw [List.append_assoc (X ++ [x])] at h2
  exact h2
theorem vr_outer (c : ClassId) (N h0 : Nat) : ∀ i : Nat, Jvm.Free.Multi.outerC c N h0 i = arrV c N (fun j => va_rf (if j < i then some (h0 + 1 + j) else none))
  | 0 => by
    show ({ cls := c, slots := Array.replicate N .null, vm := .none } : Cell) = _
    rw [arrV_new]
    refine congrArg (arrV c N) (funext fun j => ?_)
    simp [va_rf]
  | i + 1 => by
    show (Jvm.Free.Multi.outerC c N h0 i).setSlot i (.ref (h0 + 1 + i)) = _
    rw [vr_outer c N h0 i, arrV_store]
    refine congrArg (arrV c N) (funext fun j => ?_)
    by_cases e : j = i
    · subst e
      simp [updV, va_rf]
    · by_cases h : j < i
      · simp [updV, e, h, Nat.lt_succ_of_lt h]
      · simp [updV, e, h, show ¬ j < i + 1 by omega]
section VGM
variable {p : Program} {l : Launch} {e : Env} {R : Room} {s : State} {m : MethodId} {args : Array Value} {below : List Frame} {meth : Method} {c : Code} {H : Heap} {locs : List Loc} {cells slots : Nat} {Q : State → Prop}
variable {cc : ByteArray} {pc : Nat} {ls : Array Slot} {rest : List Value} {D : va_G} {cl : List vw_C} {A : Nat → Prop} {a : Nat} {tys : List (ClassId × FieldType)} {ws : va_W} {H0 : Heap}
theorem va_mna {X : va_W} {L : List Nat} {f : Nat → va_E} {cc : ByteArray} (hexec : p.tables.exec = Jvm.exec) (hb : c.code = cc) {own : String} {index : Nat} {ty : FieldType} {cy : ClassId} (hown : s.vm.findClass own = some m.cls) (hclink : (Cond.classLink own index ("[" ++ (FieldType.array ty).toString)).before args s = true) (hover : va_AOA ty s) (harr : (Cond.arrayClass ty).before args s = true) (hcy : s.vm.findClass (FieldType.array ty).toString = some cy)
    (hK : va_K D cl tys s) (hP : va_P D cl (X ++ va_pl L f) H) (hD : va_D A (X ++ va_pl L f)) (hS : va_S A H0 H locs) (hA : ∀ q, H0.size ≤ q → A q) {n k : Int32} {N' K' : Nat} {z : vp_A} (hn : ¬ n < 0) (hk : ¬ k < 0) (hN : n.toNatClampNeg = N') (hM : k.toNatClampNeg = K')
    (hb1 : N' * 4 ≤ 536870912) (hb2 : K' * componentBytes ty ≤ 536870912) (hb3 : K' ≤ 536870912) (hdf : fits ty (defaultValue ty) = true) (hdd : (defaultValue ty).isDefault = true) (hcells : cells + (1 + N') ≤ R.cells) (hslots : slots + (N' + N' * K') ≤ R.slots) (hz : ∀ c : ClassId, Jvm.Free.Multi.innerC c K' (defaultValue ty) = vp_cell c z) (hdg : decode cc pc = .ok (.multianewarray index 2, 4))
    (kk : ∀ (q : Nat) (r : Nat → Nat) (cA : ClassId) (H1 : Heap), (∀ i j : Nat, i < N' → j < N' → r i = r j → i = j) → (∀ i : Nat, i < N' → r i ∉ L) → va_K D cl (tys ++ [(cA, .array ty)]) s →
      va_P D cl ((X ++ [(q, .inl (cA, N', .inr (.inr (.inr (.inr (fun i => if i < N' then some (r i) else none))))))]) ++ va_pl (L ++ (List.range N').map r) (vr_up f ((List.range N').map r) (.inl (cy, z)))) H1 → va_D A ((X ++ [(q, .inl (cA, N', .inr (.inr (.inr (.inr (fun i => if i < N' then some (r i) else none))))))]) ++ va_pl (L ++ (List.range N').map r) (vr_up f ((List.range N').map r) (.inl (cy, z)))) → va_S A H0 H1 locs →
      W p l e R s m args below meth c H1 locs (cells + 1 + N') (slots + N' + N' * K') Q (F0 m (pc + 4) ls (.ref q :: rest))) : W p l e R s m args below meth c H locs cells slots Q (F0 m pc ls (.int k :: .int n :: rest)) := by
  subst hN
  subst hM
  intro T hT Xs
  obtain ⟨vm₁, cA, comp, -, fA, fC, hO, -, X', step⟩ := Xs.multianewarray2F hexec hown hclink (va_AOA.use hover) harr (g := F0 m pc ls (.int k :: .int n :: rest)) rfl (by rw [hb]; exact hdg) rfl hn hk hb1 hb2 hb3 hdf hdd hcells hslots
  have ec : some cy = some comp := hcy.symm.trans fC
  cases ec
  generalize hF : Jvm.Free.Multi.fill (T.setVm vm₁) cA cy n.toNatClampNeg k.toNatClampNeg (defaultValue ty) n.toNatClampNeg = F at X' step
  have hTh : (T.setVm vm₁).heap = H := hT
  obtain ⟨f1, f2, -, -⟩ := Jvm.Free.Multi.fill_facts (T.setVm vm₁) cA cy n.toNatClampNeg k.toNatClampNeg (defaultValue ty) n.toNatClampNeg
  rw [hF, hTh] at f1 f2
  have hold : ∀ x : Nat, x < H.size → F.heap[x]? = H[x]? := fun x hx => by
    have := Jvm.Free.Multi.fill_old (T.setVm vm₁) cA cy n.toNatClampNeg k.toNatClampNeg (defaultValue ty) (a := x) (by rw [hTh]; exact hx) n.toNatClampNeg
    rw [hF, hTh] at this
    exact this
  have hrow : ∀ j : Nat, j < n.toNatClampNeg → F.heap[H.size + 1 + j]? = some (vp_cell cy z) := fun j hj => by
    have := Jvm.Free.Multi.fill_inner (T.setVm vm₁) cA cy n.toNatClampNeg k.toNatClampNeg (defaultValue ty) n.toNatClampNeg j hj
    rw [hF, hTh, hz] at this
    exact this
  have hout : Jvm.Free.Multi.outerC cA n.toNatClampNeg H.size n.toNatClampNeg = vp_cell cA (n.toNatClampNeg, .inr (.inr (.inr (.inr (fun i => if i < n.toNatClampNeg then some (H.size + 1 + i) else none))))) := by
    rw [vp_cell_q]
    exact vr_outer cA n.toNatClampNeg H.size n.toNatClampNeg
  rw [hout] at f2
  have hlt : ∀ a, a ∈ L → a < H.size := fun a ha => by
    obtain ⟨k9, hk9⟩ := va_pl_get (X := X) (f := f) ha
    exact (hP k9 _ hk9).lt
  have hnl : ∀ i : Nat, i < n.toNatClampNeg → H.size + 1 + i ∉ L := fun i _ h => by
    have := hlt _ h
    omega
  have hnm : ∀ a, a ∈ (List.range n.toNatClampNeg).map (fun i => H.size + 1 + i) → a ∉ L := fun a ha h => by
    obtain ⟨i, -, rfl⟩ := List.mem_map.mp ha
    have := hlt _ h
    omega
  have hP0 : va_P D cl (X ++ va_pl L f) F.heap := hP.kept (fun k9 x hx => hold x.1 ((hP k9 x hx).lt))
  have hP1 : va_P D cl ((X ++ va_pl L f) ++ [(H.size, .inl (cA, n.toNatClampNeg, .inr (.inr (.inr (.inr (fun i => if i < n.toNatClampNeg then some (H.size + 1 + i) else none))))))]) F.heap := hP0.app (fun k9 x hx => by
    have h0 : k9 < 1 := (List.getElem?_eq_some_iff.mp hx).1
    rw [show k9 = 0 by omega] at hx
    cases hx
    exact f2)
  have hP2 : va_P D cl (((X ++ va_pl L f) ++ [(H.size, .inl (cA, n.toNatClampNeg, .inr (.inr (.inr (.inr (fun i => if i < n.toNatClampNeg then some (H.size + 1 + i) else none))))))]) ++ ((List.range n.toNatClampNeg).map (fun i => H.size + 1 + i)).map (fun a => (a, .inl (cy, z)))) F.heap := hP1.app (fun k9 x hx => by
    obtain ⟨a, ha, rfl⟩ := List.mem_map.mp (List.mem_of_getElem? hx)
    obtain ⟨i, hi, rfl⟩ := List.mem_map.mp ha
    exact hrow i (List.mem_range.mp hi))
  have hD2 : va_D A (((X ++ va_pl L f) ++ [(H.size, .inl (cA, n.toNatClampNeg, .inr (.inr (.inr (.inr (fun i => if i < n.toNatClampNeg then some (H.size + 1 + i) else none))))))]) ++ ((List.range n.toNatClampNeg).map (fun i => H.size + 1 + i)).map (fun a => (a, .inl (cy, z)))) := by
    have hD1 := hD.push (e := .inl (cA, n.toNatClampNeg, .inr (.inr (.inr (.inr (fun i => if i < n.toNatClampNeg then some (H.size + 1 + i) else none)))))) hP rfl (hA _ hS.1)
    generalize hW1 : (X ++ va_pl L f) ++ [(H.size, .inl (cA, n.toNatClampNeg, .inr (.inr (.inr (.inr (fun i => if i < n.toNatClampNeg then some (H.size + 1 + i) else none))))))] = W1 at hD1 hP1 ⊢
    have hle : ∀ (k9 : Nat) (x : Nat × va_E), W1[k9]? = some x → x.1 ≤ H.size := fun k9 x hx => by
      rw [← hW1] at hx
      by_cases hl : k9 < (X ++ va_pl L f).length
      · rw [List.getElem?_append_left hl] at hx
        exact Nat.le_of_lt ((hP k9 x hx).lt)
      · rw [List.getElem?_append_right (by omega)] at hx
        have h0 : k9 - (X ++ va_pl L f).length < 1 := (List.getElem?_eq_some_iff.mp hx).1
        rw [show k9 - (X ++ va_pl L f).length = 0 by omega] at hx
        cases hx
        exact Nat.le_refl _
    have hr : ∀ (k9 : Nat) (x : Nat × va_E), (((List.range n.toNatClampNeg).map (fun i => H.size + 1 + i)).map (fun a => ((a, .inl (cy, z)) : Nat × va_E)))[k9]? = some x → x.1 = H.size + 1 + k9 := fun k9 x hx => by
      rw [List.getElem?_map, List.getElem?_map] at hx
      by_cases h9 : k9 < n.toNatClampNeg
      · rw [List.getElem?_range h9] at hx
        cases hx
        rfl
      · have hn0 : (List.range n.toNatClampNeg)[k9]? = none := List.getElem?_eq_none (by rw [List.length_range]; omega)
        rw [hn0] at hx
        cases hx
    refine ⟨fun i j x y hi hj hxy => ?_, fun k9 x hx => ?_⟩
    · by_cases h1 : i < W1.length <;> by_cases h2 : j < W1.length
      · rw [List.getElem?_append_left h1] at hi
        rw [List.getElem?_append_left h2] at hj
        exact hD1.1 i j x y hi hj hxy
      · rw [List.getElem?_append_left h1] at hi
        rw [List.getElem?_append_right (by omega)] at hj
        have := hle _ _ hi
        have := hr _ _ hj
        omega
      · rw [List.getElem?_append_right (by omega)] at hi
        rw [List.getElem?_append_left h2] at hj
        have := hle _ _ hj
        have := hr _ _ hi
        omega
      · rw [List.getElem?_append_right (by omega)] at hi hj
        have := hr _ _ hi
        have := hr _ _ hj
        omega
    · by_cases h1 : k9 < W1.length
      · rw [List.getElem?_append_left h1] at hx
        exact hD1.2 k9 x hx
      · rw [List.getElem?_append_right (by omega)] at hx
        have := hr _ _ hx
        exact hA _ (by have := hS.1; omega)
  have hAr : ArrOfT s cA (.array ty) := fun N9 z9 => by
    obtain ⟨-, k9, hk9, cm9, hkk9⟩ := (hO 0 0 0).1
    exact ⟨(fun q hq => by cases hq), k9, hk9, cm9, hkk9⟩
  have hK2 : va_K D cl (tys ++ [(cA, .array ty)]) s := ⟨hK.1, fun k9 x hx => by
    by_cases hl : k9 < tys.length
    · rw [List.getElem?_append_left hl] at hx
      exact hK.2 k9 x hx
    · rw [List.getElem?_append_right (by omega)] at hx
      have h0 : k9 - tys.length < 1 := (List.getElem?_eq_some_iff.mp hx).1
      rw [show k9 - tys.length = 0 by omega] at hx
      cases hx
      exact ⟨hAr, fA⟩⟩
  obtain ⟨t, a1, b1⟩ := kk H.size (fun i => H.size + 1 + i) cA F.heap (fun i j _ _ h => by have h9 : H.size + 1 + i = H.size + 1 + j := h; omega) hnl hK2 (by rw [← vr_rows hnm]; exact vr_lay hP2) (by rw [← vr_rows hnm]; exact vr_layD hD2) ⟨by rw [f1]; have := hS.1; omega, fun x h1 h2 => (hold x (Nat.lt_of_lt_of_le h1 hS.1)).trans (hS.2.1 x h1 h2), hS.2.2⟩ F rfl X'
  refine ⟨t, step t ?_, b1⟩
  have e : T.heap.size = H.size := by rw [hT]
  rw [e]
  exact a1
end VGM
/-! ===== END ===== -/

def RX0 : String := "NightLevel$Acts"
def TX0 : u_T := fun k => match k with
  | 0 => ("NightLevel$Acts", "kept", "[I", true)
  | 1 => ("NightLevel$Acts", "next", "I", false)
  | _ => ("NightLevel$Acts", "size", "I", false)
def tyX0 : Nat → FieldType := fun k => match k with
  | 0 => .array .int
  | 1 => .int
  | _ => .int
abbrev wsX00 : List Cond := u_ws RX0 TX0 3
theorem nmX0 : ∀ a, a < 3 → ∀ b, b < 3 → a ≠ b → (TX0 a).2.1 ≠ (TX0 b).2.1 := by decide +kernel
theorem tyX0_ok : ∀ k, k < 3 → parseFieldDescriptor (TX0 k).2.2.1 = some (tyX0 k) := by decide +kernel
abbrev cX0_init : ByteArray := prog_2_method_1_code
def yX0_init : MethodName := ⟨RX0, "<init>", "()V"⟩
abbrev cX0_forget : ByteArray := prog_2_method_2_code
def yX0_forget : MethodName := ⟨RX0, "forget", "()V"⟩
abbrev cX0_keep : ByteArray := prog_2_method_3_code
def yX0_keep : MethodName := ⟨RX0, "keep", "(LNightLevel$Site;)V"⟩
abbrev cX0_takeBack : ByteArray := prog_2_method_4_code
def yX0_takeBack : MethodName := ⟨RX0, "takeBack", "(LNightLevel$Site;)V"⟩
def RX1 : String := "NightLevel$Asker"
def TX1 : u_T := fun k => match k with
  | 0 => ("NightLevel$Asker", "bodies", "[I", true)
  | _ => ("NightLevel$Asker", "left", "I", false)
def tyX1 : Nat → FieldType := fun k => match k with
  | 0 => .array .int
  | _ => .int
abbrev wsX10 : List Cond := u_ws RX1 TX1 2
theorem nmX1 : ∀ a, a < 2 → ∀ b, b < 2 → a ≠ b → (TX1 a).2.1 ≠ (TX1 b).2.1 := by decide +kernel
theorem tyX1_ok : ∀ k, k < 2 → parseFieldDescriptor (TX1 k).2.2.1 = some (tyX1 k) := by decide +kernel
abbrev cX1_init : ByteArray := prog_3_method_1_code
def yX1_init : MethodName := ⟨RX1, "<init>", "()V"⟩
abbrev cX1_isOne : ByteArray := prog_3_method_2_code
def yX1_isOne : MethodName := ⟨RX1, "isOne", "(II)Z"⟩
abbrev cX1_answer : ByteArray := prog_3_method_3_code
def yX1_answer : MethodName := ⟨RX1, "answer", "(LNightLevel$Site;II)I"⟩
abbrev cX1_bodyFor : ByteArray := prog_3_method_4_code
def yX1_bodyFor : MethodName := ⟨RX1, "bodyFor", "(II)I"⟩
abbrev cX1_begin : ByteArray := prog_3_method_5_code
def yX1_begin : MethodName := ⟨RX1, "begin", "(LNightLevel$Site;III)I"⟩
abbrev cX1_anew : ByteArray := prog_3_method_6_code
def yX1_anew : MethodName := ⟨RX1, "anew", "(LNightLevel$Site;III)I"⟩
def RX2 : String := "NightLevel$Foresight"
def TX2 : u_T := fun k => match k with
  | 0 => ("NightLevel$Foresight", "trial", "LNightLevel$Stance;", true)
  | 1 => ("NightLevel$Foresight", "chosen", "[I", true)
  | 2 => ("NightLevel$Foresight", "shares", "[I", true)
  | 3 => ("NightLevel$Foresight", "later", "LNightLevel$Stance;", true)
  | _ => ("NightLevel$Foresight", "steps", "[LNightLevel$Stance;", true)
def tyX2 : Nat → FieldType := fun k => match k with
  | 0 => .object "NightLevel$Stance"
  | 1 => .array .int
  | 2 => .array .int
  | 3 => .object "NightLevel$Stance"
  | _ => .array (.object "NightLevel$Stance")
abbrev wsX20 : List Cond := u_ws RX2 TX2 5
theorem nmX2 : ∀ a, a < 5 → ∀ b, b < 5 → a ≠ b → (TX2 a).2.1 ≠ (TX2 b).2.1 := by decide +kernel
theorem tyX2_ok : ∀ k, k < 5 → parseFieldDescriptor (TX2 k).2.2.1 = some (tyX2 k) := by decide +kernel
abbrev cX2_init : ByteArray := prog_4_method_1_code
def yX2_init : MethodName := ⟨RX2, "<init>", "()V"⟩
abbrev cX2_behind : ByteArray := prog_4_method_2_code
def yX2_behind : MethodName := ⟨RX2, "behind", "(LNightLevel$Site;LNightLevel$Stance;I)LNightLevel$Stance;"⟩
abbrev cX2_sunkBy : ByteArray := prog_4_method_3_code
def yX2_sunkBy : MethodName := ⟨RX2, "sunkBy", "(LNightLevel$Stance;I)LNightLevel$Stance;"⟩
abbrev cX2_untilLevelIs : ByteArray := prog_4_method_4_code
def yX2_untilLevelIs : MethodName := ⟨RX2, "untilLevelIs", "(LNightLevel$Site;Z)I"⟩
abbrev cX2_worstHour : ByteArray := prog_4_method_5_code
def yX2_worstHour : MethodName := ⟨RX2, "worstHour", "(LNightLevel$Site;I)I"⟩
abbrev cX2_awryIf : ByteArray := prog_4_method_6_code
def yX2_awryIf : MethodName := ⟨RX2, "awryIf", "(LNightLevel$Site;I)I"⟩
abbrev cX2_bestDeed : ByteArray := prog_4_method_7_code
def yX2_bestDeed : MethodName := ⟨RX2, "bestDeed", "(LNightLevel$Site;)I"⟩
abbrev cX2_planLength : ByteArray := prog_4_method_8_code
def yX2_planLength : MethodName := ⟨RX2, "planLength", "(LNightLevel$Site;I)I"⟩
abbrev cX2_findRow : ByteArray := prog_4_method_9_code
def yX2_findRow : MethodName := ⟨RX2, "findRow", "(LNightLevel$Site;IIII)Z"⟩
abbrev cX2_isOutOfTurn : ByteArray := prog_4_method_10_code
def yX2_isOutOfTurn : MethodName := ⟨RX2, "isOutOfTurn", "(LNightLevel$Site;II)Z"⟩
abbrev cX2_fewestBoards : ByteArray := prog_4_method_11_code
def yX2_fewestBoards : MethodName := ⟨RX2, "fewestBoards", "(LNightLevel$Site;I)I"⟩
abbrev cX2_leastLifting : ByteArray := prog_4_method_12_code
def yX2_leastLifting : MethodName := ⟨RX2, "leastLifting", "(LNightLevel$Site;)I"⟩
abbrev cX2_leastNoseLift : ByteArray := prog_4_method_13_code
def yX2_leastNoseLift : MethodName := ⟨RX2, "leastNoseLift", "(LNightLevel$Site;)I"⟩
abbrev cX2_share : ByteArray := prog_4_method_14_code
def yX2_share : MethodName := ⟨RX2, "share", "(III)I"⟩
abbrev cX2_tryWith : ByteArray := prog_4_method_15_code
def yX2_tryWith : MethodName := ⟨RX2, "tryWith", "(LNightLevel$Site;III)V"⟩
abbrev cX2_isSo : ByteArray := prog_4_method_16_code
def yX2_isSo : MethodName := ⟨RX2, "isSo", "(LNightLevel$Site;I[III)Z"⟩
abbrev cX2_casesInAll : ByteArray := prog_4_method_17_code
def yX2_casesInAll : MethodName := ⟨RX2, "casesInAll", "(LNightLevel$Site;)J"⟩
abbrev cX2_casesLevel : ByteArray := prog_4_method_18_code
def yX2_casesLevel : MethodName := ⟨RX2, "casesLevel", "(LNightLevel$Site;I)J"⟩
abbrev cX2_drawNight : ByteArray := prog_4_method_19_code
def yX2_drawNight : MethodName := ⟨RX2, "drawNight", "(LNightLevel$Site;II)I"⟩
def RX3 : String := "NightLevel$Shelf"
def TX3 : u_T := fun k => match k with
  | 0 => ("NightLevel$Shelf", "items", "[[I", true)
  | 1 => ("NightLevel$Shelf", "lanes", "[I", true)
  | _ => ("NightLevel$Shelf", "sizes", "[I", true)
def tyX3 : Nat → FieldType := fun k => match k with
  | 0 => .array (.array .int)
  | 1 => .array .int
  | _ => .array .int
abbrev wsX30 : List Cond := u_ws RX3 TX3 3
theorem nmX3 : ∀ a, a < 3 → ∀ b, b < 3 → a ≠ b → (TX3 a).2.1 ≠ (TX3 b).2.1 := by decide +kernel
theorem tyX3_ok : ∀ k, k < 3 → parseFieldDescriptor (TX3 k).2.2.1 = some (tyX3 k) := by decide +kernel
abbrev cX3_init : ByteArray := prog_5_method_1_code
def yX3_init : MethodName := ⟨RX3, "<init>", "()V"⟩
abbrev cX3_isRow : ByteArray := prog_5_method_2_code
def yX3_isRow : MethodName := ⟨RX3, "isRow", "(I)Z"⟩
abbrev cX3_isMissing : ByteArray := prog_5_method_3_code
def yX3_isMissing : MethodName := ⟨RX3, "isMissing", "(I)Z"⟩
abbrev cX3_haveOneLane : ByteArray := prog_5_method_4_code
def yX3_haveOneLane : MethodName := ⟨RX3, "haveOneLane", "(II)Z"⟩
abbrev cX3_hasPlaces : ByteArray := prog_5_method_5_code
def yX3_hasPlaces : MethodName := ⟨RX3, "hasPlaces", "(III)Z"⟩
abbrev cX3_howMany : ByteArray := prog_5_method_6_code
def yX3_howMany : MethodName := ⟨RX3, "howMany", "()I"⟩
abbrev cX3_make : ByteArray := prog_5_method_7_code
def yX3_make : MethodName := ⟨RX3, "make", "(III)I"⟩
abbrev cX3_put : ByteArray := prog_5_method_8_code
def yX3_put : MethodName := ⟨RX3, "put", "(III)I"⟩
abbrev cX3_move : ByteArray := prog_5_method_9_code
def yX3_move : MethodName := ⟨RX3, "move", "(IIIII)I"⟩
abbrev cX3_remove : ByteArray := prog_5_method_10_code
def yX3_remove : MethodName := ⟨RX3, "remove", "(I)I"⟩
def RX4 : String := "NightLevel$Site"
def TX4 : u_T := fun k => match k with
  | 0 => ("NightLevel$Site", "stands", "Z", false)
  | 1 => ("NightLevel$Site", "egg", "I", false)
  | 2 => ("NightLevel$Site", "bed", "I", false)
  | 3 => ("NightLevel$Site", "rain", "I", false)
  | 4 => ("NightLevel$Site", "hour", "I", false)
  | 5 => ("NightLevel$Site", "deedCount", "I", false)
  | 6 => ("NightLevel$Site", "done", "I", false)
  | 7 => ("NightLevel$Site", "kindOf", "[I", true)
  | 8 => ("NightLevel$Site", "footOf", "[I", true)
  | 9 => ("NightLevel$Site", "amountOf", "[I", true)
  | _ => ("NightLevel$Site", "stance", "LNightLevel$Stance;", true)
def tyX4 : Nat → FieldType := fun k => match k with
  | 0 => .boolean
  | 1 => .int
  | 2 => .int
  | 3 => .int
  | 4 => .int
  | 5 => .int
  | 6 => .int
  | 7 => .array .int
  | 8 => .array .int
  | 9 => .array .int
  | _ => .object "NightLevel$Stance"
abbrev wsX40 : List Cond := u_ws RX4 TX4 11
theorem nmX4 : ∀ a, a < 11 → ∀ b, b < 11 → a ≠ b → (TX4 a).2.1 ≠ (TX4 b).2.1 := by decide +kernel
theorem tyX4_ok : ∀ k, k < 11 → parseFieldDescriptor (TX4 k).2.2.1 = some (tyX4 k) := by decide +kernel
abbrev cX4_init : ByteArray := prog_6_method_1_code
def yX4_init : MethodName := ⟨RX4, "<init>", "()V"⟩
abbrev cX4_clear : ByteArray := prog_6_method_2_code
def yX4_clear : MethodName := ⟨RX4, "clear", "()V"⟩
abbrev cX4_copyFrom : ByteArray := prog_6_method_3_code
def yX4_copyFrom : MethodName := ⟨RX4, "copyFrom", "(LNightLevel$Site;)V"⟩
abbrev cX4_addDeed : ByteArray := prog_6_method_4_code
def yX4_addDeed : MethodName := ⟨RX4, "addDeed", "(III)V"⟩
abbrev cX4_hasDeed : ByteArray := prog_6_method_5_code
def yX4_hasDeed : MethodName := ⟨RX4, "hasDeed", "(I)Z"⟩
abbrev cX4_isDone : ByteArray := prog_6_method_6_code
def yX4_isDone : MethodName := ⟨RX4, "isDone", "(I)Z"⟩
abbrev cX4_leftCount : ByteArray := prog_6_method_7_code
def yX4_leftCount : MethodName := ⟨RX4, "leftCount", "()I"⟩
abbrev cX4_isLevel : ByteArray := prog_6_method_8_code
def yX4_isLevel : MethodName := ⟨RX4, "isLevel", "(LNightLevel$Stance;)Z"⟩
abbrev cX4_enact : ByteArray := prog_6_method_9_code
def yX4_enact : MethodName := ⟨RX4, "enact", "(ILNightLevel$Stance;)V"⟩
abbrev cX4_rainsWithin : ByteArray := prog_6_method_10_code
def yX4_rainsWithin : MethodName := ⟨RX4, "rainsWithin", "(I)I"⟩
abbrev cX4_passHour : ByteArray := prog_6_method_11_code
def yX4_passHour : MethodName := ⟨RX4, "passHour", "()V"⟩
abbrev cX4_save : ByteArray := prog_6_method_12_code
def yX4_save : MethodName := ⟨RX4, "save", "([II)V"⟩
abbrev cX4_load : ByteArray := prog_6_method_13_code
def yX4_load : MethodName := ⟨RX4, "load", "([II)V"⟩
def RX5 : String := "NightLevel$Stance"
def TX5 : u_T := fun k => match k with
  | 0 => ("NightLevel$Stance", "height", "[I", true)
  | _ => ("NightLevel$Stance", "soft", "[I", true)
def tyX5 : Nat → FieldType := fun k => match k with
  | 0 => .array .int
  | _ => .array .int
abbrev wsX50 : List Cond := u_ws RX5 TX5 2
theorem nmX5 : ∀ a, a < 2 → ∀ b, b < 2 → a ≠ b → (TX5 a).2.1 ≠ (TX5 b).2.1 := by decide +kernel
theorem tyX5_ok : ∀ k, k < 2 → parseFieldDescriptor (TX5 k).2.2.1 = some (tyX5 k) := by decide +kernel
abbrev cX5_init : ByteArray := prog_7_method_1_code
def yX5_init : MethodName := ⟨RX5, "<init>", "()V"⟩
abbrev cX5_copyFrom : ByteArray := prog_7_method_2_code
def yX5_copyFrom : MethodName := ⟨RX5, "copyFrom", "(LNightLevel$Stance;)V"⟩
abbrev cX5_side : ByteArray := prog_7_method_3_code
def yX5_side : MethodName := ⟨RX5, "side", "()I"⟩
abbrev cX5_middle : ByteArray := prog_7_method_4_code
def yX5_middle : MethodName := ⟨RX5, "middle", "()I"⟩
abbrev cX5_along : ByteArray := prog_7_method_5_code
def yX5_along : MethodName := ⟨RX5, "along", "()I"⟩
abbrev cX5_tilt : ByteArray := prog_7_method_6_code
def yX5_tilt : MethodName := ⟨RX5, "tilt", "(I)I"⟩
abbrev cX5_awry : ByteArray := prog_7_method_7_code
def yX5_awry : MethodName := ⟨RX5, "awry", "()I"⟩
abbrev cX5_allHeights : ByteArray := prog_7_method_8_code
def yX5_allHeights : MethodName := ⟨RX5, "allHeights", "()I"⟩
abbrev cX5_shift : ByteArray := prog_7_method_9_code
def yX5_shift : MethodName := ⟨RX5, "shift", "(II)V"⟩
abbrev cX5_soften : ByteArray := prog_7_method_10_code
def yX5_soften : MethodName := ⟨RX5, "soften", "(II)V"⟩
abbrev cX5_sink : ByteArray := prog_7_method_11_code
def yX5_sink : MethodName := ⟨RX5, "sink", "(I)V"⟩
abbrev cX5_enact : ByteArray := prog_7_method_12_code
def yX5_enact : MethodName := ⟨RX5, "enact", "(III)V"⟩
abbrev cX5_wind : ByteArray := prog_7_method_13_code
def yX5_wind : MethodName := ⟨RX5, "wind", "(I)V"⟩
abbrev cX5_changeWheels : ByteArray := prog_7_method_14_code
def yX5_changeWheels : MethodName := ⟨RX5, "changeWheels", "()V"⟩
def RX6 : String := "NightLevel$Tape"
def TX6 : u_T := fun k => match k with
  | 0 => ("NightLevel$Tape", "bytes", "[I", true)
  | 1 => ("NightLevel$Tape", "length", "I", false)
  | 2 => ("NightLevel$Tape", "at", "I", false)
  | _ => ("NightLevel$Tape", "fault", "I", false)
def tyX6 : Nat → FieldType := fun k => match k with
  | 0 => .array .int
  | 1 => .int
  | 2 => .int
  | _ => .int
abbrev wsX60 : List Cond := u_ws RX6 TX6 4
theorem nmX6 : ∀ a, a < 4 → ∀ b, b < 4 → a ≠ b → (TX6 a).2.1 ≠ (TX6 b).2.1 := by decide +kernel
theorem tyX6_ok : ∀ k, k < 4 → parseFieldDescriptor (TX6 k).2.2.1 = some (tyX6 k) := by decide +kernel
abbrev cX6_init : ByteArray := prog_8_method_1_code
def yX6_init : MethodName := ⟨RX6, "<init>", "()V"⟩
abbrev cX6_isFull : ByteArray := prog_8_method_2_code
def yX6_isFull : MethodName := ⟨RX6, "isFull", "()Z"⟩
abbrev cX6_add : ByteArray := prog_8_method_3_code
def yX6_add : MethodName := ⟨RX6, "add", "(I)I"⟩
abbrev cX6_clear : ByteArray := prog_8_method_4_code
def yX6_clear : MethodName := ⟨RX6, "clear", "()V"⟩
abbrev cX6_readInto : ByteArray := prog_8_method_5_code
def yX6_readInto : MethodName := ⟨RX6, "readInto", "(LNightLevel$Site;)Z"⟩
abbrev cX6_readLaw : ByteArray := prog_8_method_6_code
def yX6_readLaw : MethodName := ⟨RX6, "readLaw", "(LNightLevel$Site;)Z"⟩
abbrev cX6_readAllFeet : ByteArray := prog_8_method_7_code
def yX6_readAllFeet : MethodName := ⟨RX6, "readAllFeet", "(LNightLevel$Stance;)Z"⟩
abbrev cX6_readDeeds : ByteArray := prog_8_method_8_code
def yX6_readDeeds : MethodName := ⟨RX6, "readDeeds", "(LNightLevel$Site;)Z"⟩
abbrev cX6_readDeed : ByteArray := prog_8_method_9_code
def yX6_readDeed : MethodName := ⟨RX6, "readDeed", "(LNightLevel$Site;)Z"⟩
abbrev cX6_kindTold : ByteArray := prog_8_method_10_code
def yX6_kindTold : MethodName := ⟨RX6, "kindTold", "(I)I"⟩
abbrev cX6_take : ByteArray := prog_8_method_11_code
def yX6_take : MethodName := ⟨RX6, "take", "(C)Z"⟩
abbrev cX6_takeNumber : ByteArray := prog_8_method_12_code
def yX6_takeNumber : MethodName := ⟨RX6, "takeNumber", "(IIC)I"⟩
abbrev cX6_stop : ByteArray := prog_8_method_13_code
def yX6_stop : MethodName := ⟨RX6, "stop", "(I)Z"⟩
def RX7 : String := "NightLevel"
def TX7 : u_T := fun k => match k with
  | 0 => ("NightLevel", "shelf", "LNightLevel$Shelf;", true)
  | 1 => ("NightLevel", "tape", "LNightLevel$Tape;", true)
  | 2 => ("NightLevel", "here", "LNightLevel$Site;", true)
  | 3 => ("NightLevel", "draft", "LNightLevel$Site;", true)
  | 4 => ("NightLevel", "images", "[LNightLevel$Site;", true)
  | 5 => ("NightLevel", "acts", "LNightLevel$Acts;", true)
  | 6 => ("NightLevel", "foresight", "LNightLevel$Foresight;", true)
  | 7 => ("NightLevel", "asker", "LNightLevel$Asker;", true)
  | 8 => ("NightLevel", "latestFault", "I", false)
  | _ => ("NightLevel", "latestFinding", "I", false)
def tyX7 : Nat → FieldType := fun k => match k with
  | 0 => .object "NightLevel$Shelf"
  | 1 => .object "NightLevel$Tape"
  | 2 => .object "NightLevel$Site"
  | 3 => .object "NightLevel$Site"
  | 4 => .array (.object "NightLevel$Site")
  | 5 => .object "NightLevel$Acts"
  | 6 => .object "NightLevel$Foresight"
  | 7 => .object "NightLevel$Asker"
  | 8 => .int
  | _ => .int
abbrev wsX70 : List Cond := u_ws RX7 TX7 10
theorem nmX7 : ∀ a, a < 10 → ∀ b, b < 10 → a ≠ b → (TX7 a).2.1 ≠ (TX7 b).2.1 := by decide +kernel
theorem tyX7_ok : ∀ k, k < 10 → parseFieldDescriptor (TX7 k).2.2.1 = some (tyX7 k) := by decide +kernel
abbrev cX7_init : ByteArray := prog_1_method_1_code
def yX7_init : MethodName := ⟨RX7, "<init>", "()V"⟩
abbrev cX7_row : ByteArray := prog_1_method_2_code
def yX7_row : MethodName := ⟨RX7, "row", "(III)I"⟩
abbrev cX7_set : ByteArray := prog_1_method_3_code
def yX7_set : MethodName := ⟨RX7, "set", "(III)I"⟩
abbrev cX7_copy : ByteArray := prog_1_method_4_code
def yX7_copy : MethodName := ⟨RX7, "copy", "(IIIII)I"⟩
abbrev cX7_drop : ByteArray := prog_1_method_5_code
def yX7_drop : MethodName := ⟨RX7, "drop", "(I)I"⟩
abbrev cX7_feed : ByteArray := prog_1_method_6_code
def yX7_feed : MethodName := ⟨RX7, "feed", "(I)I"⟩
abbrev cX7_site : ByteArray := prog_1_method_7_code
def yX7_site : MethodName := ⟨RX7, "site", "()I"⟩
abbrev cX7_fault : ByteArray := prog_1_method_8_code
def yX7_fault : MethodName := ⟨RX7, "fault", "()I"⟩
abbrev cX7_undo : ByteArray := prog_1_method_9_code
def yX7_undo : MethodName := ⟨RX7, "undo", "()I"⟩
abbrev cX7_hours : ByteArray := prog_1_method_10_code
def yX7_hours : MethodName := ⟨RX7, "hours", "(I)I"⟩
abbrev cX7_perform : ByteArray := prog_1_method_11_code
def yX7_perform : MethodName := ⟨RX7, "perform", "(I)I"⟩
abbrev cX7_board : ByteArray := prog_1_method_12_code
def yX7_board : MethodName := ⟨RX7, "board", "(I)I"⟩
abbrev cX7_amount : ByteArray := prog_1_method_13_code
def yX7_amount : MethodName := ⟨RX7, "amount", "(II)I"⟩
abbrev cX7_jack : ByteArray := prog_1_method_14_code
def yX7_jack : MethodName := ⟨RX7, "jack", "(II)I"⟩
abbrev cX7_foot : ByteArray := prog_1_method_15_code
def yX7_foot : MethodName := ⟨RX7, "foot", "(II)I"⟩
abbrev cX7_deed : ByteArray := prog_1_method_16_code
def yX7_deed : MethodName := ⟨RX7, "deed", "(II)I"⟩
abbrev cX7_lean : ByteArray := prog_1_method_17_code
def yX7_lean : MethodName := ⟨RX7, "lean", "(I)I"⟩
abbrev cX7_ahead : ByteArray := prog_1_method_18_code
def yX7_ahead : MethodName := ⟨RX7, "ahead", "(II)I"⟩
abbrev cX7_leanAhead : ByteArray := prog_1_method_19_code
def yX7_leanAhead : MethodName := ⟨RX7, "leanAhead", "(II)I"⟩
abbrev cX7_lasts : ByteArray := prog_1_method_20_code
def yX7_lasts : MethodName := ⟨RX7, "lasts", "()I"⟩
abbrev cX7_first : ByteArray := prog_1_method_21_code
def yX7_first : MethodName := ⟨RX7, "first", "()I"⟩
abbrev cX7_attempt : ByteArray := prog_1_method_22_code
def yX7_attempt : MethodName := ⟨RX7, "attempt", "(I)I"⟩
abbrev cX7_best : ByteArray := prog_1_method_23_code
def yX7_best : MethodName := ⟨RX7, "best", "(I)I"⟩
abbrev cX7_plan : ByteArray := prog_1_method_24_code
def yX7_plan : MethodName := ⟨RX7, "plan", "(II)I"⟩
abbrev cX7_boards : ByteArray := prog_1_method_25_code
def yX7_boards : MethodName := ⟨RX7, "boards", "(II)I"⟩
abbrev cX7_lift : ByteArray := prog_1_method_26_code
def yX7_lift : MethodName := ⟨RX7, "lift", "(I)I"⟩
abbrev cX7_worst : ByteArray := prog_1_method_27_code
def yX7_worst : MethodName := ⟨RX7, "worst", "(II)I"⟩
abbrev cX7_who : ByteArray := prog_1_method_28_code
def yX7_who : MethodName := ⟨RX7, "who", "(IIIII)I"⟩
abbrev cX7_feet : ByteArray := prog_1_method_29_code
def yX7_feet : MethodName := ⟨RX7, "feet", "(IIIII)I"⟩
abbrev cX7_amounts : ByteArray := prog_1_method_30_code
def yX7_amounts : MethodName := ⟨RX7, "amounts", "(IIIII)I"⟩
abbrev cX7_wrong : ByteArray := prog_1_method_31_code
def yX7_wrong : MethodName := ⟨RX7, "wrong", "(II)J"⟩
abbrev cX7_drawn : ByteArray := prog_1_method_32_code
def yX7_drawn : MethodName := ⟨RX7, "drawn", "(III)I"⟩
abbrev cX7_image : ByteArray := prog_1_method_33_code
def yX7_image : MethodName := ⟨RX7, "image", "(I)I"⟩
abbrev cX7_restore : ByteArray := prog_1_method_34_code
def yX7_restore : MethodName := ⟨RX7, "restore", "(I)I"⟩
abbrev cX7_kind : ByteArray := prog_1_method_35_code
def yX7_kind : MethodName := ⟨RX7, "kind", "(I)I"⟩
abbrev cX7_as : ByteArray := prog_1_method_36_code
def yX7_as : MethodName := ⟨RX7, "as", "(II)I"⟩
abbrev cX7_ask : ByteArray := prog_1_method_37_code
def yX7_ask : MethodName := ⟨RX7, "ask", "(II)I"⟩
abbrev cX7_trace : ByteArray := prog_1_method_38_code
def yX7_trace : MethodName := ⟨RX7, "trace", "(I)I"⟩
abbrev cX7_count : ByteArray := prog_1_method_39_code
def yX7_count : MethodName := ⟨RX7, "count", "(I)I"⟩
abbrev cX7_status : ByteArray := prog_1_method_40_code
def yX7_status : MethodName := ⟨RX7, "status", "()I"⟩
abbrev cX7_isWithin : ByteArray := prog_1_method_41_code
def yX7_isWithin : MethodName := ⟨RX7, "isWithin", "(III)Z"⟩
abbrev cX7_isFoot : ByteArray := prog_1_method_42_code
def yX7_isFoot : MethodName := ⟨RX7, "isFoot", "(I)Z"⟩
abbrev cX7_isAmount : ByteArray := prog_1_method_43_code
def yX7_isAmount : MethodName := ⟨RX7, "isAmount", "(I)Z"⟩
abbrev cX7_found : ByteArray := prog_1_method_44_code
def yX7_found : MethodName := ⟨RX7, "found", "(I)I"⟩
abbrev cX7_unfound : ByteArray := prog_1_method_45_code
def yX7_unfound : MethodName := ⟨RX7, "unfound", "(I)I"⟩
abbrev cX7_allThatFits : ByteArray := prog_1_method_46_code
def yX7_allThatFits : MethodName := ⟨RX7, "allThatFits", "(IIIIII)I"⟩
abbrev cX7_greatestDivisor : ByteArray := prog_1_method_47_code
def yX7_greatestDivisor : MethodName := ⟨RX7, "greatestDivisor", "(JJ)J"⟩
def RX8 : String := "NightLevelModel"
def TX8 : u_T := fun k => match k with
  | 0 => ("NightLevelModel", "thrown", "I", false)
  | 1 => ("NightLevelModel", "status", "I", false)
  | 2 => ("NightLevelModel", "lane", "[I", true)
  | 3 => ("NightLevelModel", "many", "[I", true)
  | 4 => ("NightLevelModel", "item", "[I", true)
  | 5 => ("NightLevelModel", "site", "[I", true)
  | 6 => ("NightLevelModel", "fresh", "[I", true)
  | 7 => ("NightLevelModel", "then", "[I", true)
  | 8 => ("NightLevelModel", "was", "[I", true)
  | 9 => ("NightLevelModel", "acts", "I", false)
  | 10 => ("NightLevelModel", "tape", "[I", true)
  | 11 => ("NightLevelModel", "taped", "I", false)
  | 12 => ("NightLevelModel", "cursor", "I", false)
  | 13 => ("NightLevelModel", "start", "I", false)
  | 14 => ("NightLevelModel", "token", "I", false)
  | 15 => ("NightLevelModel", "value", "I", false)
  | 16 => ("NightLevelModel", "fault", "I", false)
  | 17 => ("NightLevelModel", "faultAt", "I", false)
  | 18 => ("NightLevelModel", "latest", "I", false)
  | 19 => ("NightLevelModel", "steps", "[I", true)
  | 20 => ("NightLevelModel", "tried", "[I", true)
  | 21 => ("NightLevelModel", "isKept", "[Z", true)
  | 22 => ("NightLevelModel", "kept", "[I", true)
  | 23 => ("NightLevelModel", "trace", "[I", true)
  | _ => ("NightLevelModel", "traced", "I", false)
def tyX8 : Nat → FieldType := fun k => match k with
  | 0 => .int
  | 1 => .int
  | 2 => .array .int
  | 3 => .array .int
  | 4 => .array .int
  | 5 => .array .int
  | 6 => .array .int
  | 7 => .array .int
  | 8 => .array .int
  | 9 => .int
  | 10 => .array .int
  | 11 => .int
  | 12 => .int
  | 13 => .int
  | 14 => .int
  | 15 => .int
  | 16 => .int
  | 17 => .int
  | 18 => .int
  | 19 => .array .int
  | 20 => .array .int
  | 21 => .array .boolean
  | 22 => .array .int
  | 23 => .array .int
  | _ => .int
abbrev wsX80 : List Cond := u_ws RX8 TX8 25
theorem nmX8 : ∀ a, a < 25 → ∀ b, b < 25 → a ≠ b → (TX8 a).2.1 ≠ (TX8 b).2.1 := by decide +kernel
theorem tyX8_ok : ∀ k, k < 25 → parseFieldDescriptor (TX8 k).2.2.1 = some (tyX8 k) := by decide +kernel
abbrev cX8_init : ByteArray := prog_10_method_1_code
def yX8_init : MethodName := ⟨RX8, "<init>", "()V"⟩
abbrev cX8_in : ByteArray := prog_10_method_3_code
def yX8_in : MethodName := ⟨RX8, "in", "(JJJ)Z"⟩
abbrev cX8_finding : ByteArray := prog_10_method_4_code
def yX8_finding : MethodName := ⟨RX8, "finding", "(I)I"⟩
abbrev cX8_isRow : ByteArray := prog_10_method_5_code
def yX8_isRow : MethodName := ⟨RX8, "isRow", "(I)Z"⟩
abbrev cX8_row : ByteArray := prog_10_method_6_code
def yX8_row : MethodName := ⟨RX8, "row", "(III)I"⟩
abbrev cX8_set : ByteArray := prog_10_method_7_code
def yX8_set : MethodName := ⟨RX8, "set", "(III)I"⟩
abbrev cX8_copy : ByteArray := prog_10_method_8_code
def yX8_copy : MethodName := ⟨RX8, "copy", "(IIIII)I"⟩
abbrev cX8_drop : ByteArray := prog_10_method_9_code
def yX8_drop : MethodName := ⟨RX8, "drop", "(I)I"⟩
abbrev cX8_feed : ByteArray := prog_10_method_10_code
def yX8_feed : MethodName := ⟨RX8, "feed", "(I)I"⟩
abbrev cX8_bad : ByteArray := prog_10_method_11_code
def yX8_bad : MethodName := ⟨RX8, "bad", "(I)V"⟩
abbrev cX8_nextToken : ByteArray := prog_10_method_12_code
def yX8_nextToken : MethodName := ⟨RX8, "nextToken", "()V"⟩
abbrev cX8_must : ByteArray := prog_10_method_13_code
def yX8_must : MethodName := ⟨RX8, "must", "(Z)V"⟩
abbrev cX8_isLetter : ByteArray := prog_10_method_14_code
def yX8_isLetter : MethodName := ⟨RX8, "isLetter", "(I)Z"⟩
abbrev cX8_number : ByteArray := prog_10_method_15_code
def yX8_number : MethodName := ⟨RX8, "number", "(II)I"⟩
abbrev cX8_mustSign : ByteArray := prog_10_method_16_code
def yX8_mustSign : MethodName := ⟨RX8, "mustSign", "(I)V"⟩
abbrev cX8_begin : ByteArray := prog_10_method_17_code
def yX8_begin : MethodName := ⟨RX8, "begin", "()V"⟩
abbrev cX8_failed : ByteArray := prog_10_method_18_code
def yX8_failed : MethodName := ⟨RX8, "failed", "()Z"⟩
abbrev cX8_fault : ByteArray := prog_10_method_19_code
def yX8_fault : MethodName := ⟨RX8, "fault", "()I"⟩
abbrev cX8_kindBy : ByteArray := prog_10_method_20_code
def yX8_kindBy : MethodName := ⟨RX8, "kindBy", "(I)I"⟩
abbrev cX8_isSort : ByteArray := prog_10_method_21_code
def yX8_isSort : MethodName := ⟨RX8, "isSort", "()Z"⟩
abbrev cX8_readFoot : ByteArray := prog_10_method_22_code
def yX8_readFoot : MethodName := ⟨RX8, "readFoot", "(I)V"⟩
abbrev cX8_readDeed : ByteArray := prog_10_method_23_code
def yX8_readDeed : MethodName := ⟨RX8, "readDeed", "()V"⟩
abbrev cX8_site : ByteArray := prog_10_method_24_code
def yX8_site : MethodName := ⟨RX8, "site", "()I"⟩
abbrev cX8_isThere : ByteArray := prog_10_method_25_code
def yX8_isThere : MethodName := ⟨RX8, "isThere", "()Z"⟩
abbrev cX8_isDeed : ByteArray := prog_10_method_26_code
def yX8_isDeed : MethodName := ⟨RX8, "isDeed", "(I)Z"⟩
abbrev cX8_isFoot : ByteArray := prog_10_method_27_code
def yX8_isFoot : MethodName := ⟨RX8, "isFoot", "(I)Z"⟩
abbrev cX8_of : ByteArray := prog_10_method_28_code
def yX8_of : MethodName := ⟨RX8, "of", "([III)I"⟩
abbrev cX8_sideOf : ByteArray := prog_10_method_29_code
def yX8_sideOf : MethodName := ⟨RX8, "sideOf", "([I)I"⟩
abbrev cX8_middleOf : ByteArray := prog_10_method_30_code
def yX8_middleOf : MethodName := ⟨RX8, "middleOf", "([I)I"⟩
abbrev cX8_alongOf : ByteArray := prog_10_method_31_code
def yX8_alongOf : MethodName := ⟨RX8, "alongOf", "([I)I"⟩
abbrev cX8_off : ByteArray := prog_10_method_32_code
def yX8_off : MethodName := ⟨RX8, "off", "(I)I"⟩
abbrev cX8_awryOf : ByteArray := prog_10_method_33_code
def yX8_awryOf : MethodName := ⟨RX8, "awryOf", "([I)I"⟩
abbrev cX8_isLevel : ByteArray := prog_10_method_34_code
def yX8_isLevel : MethodName := ⟨RX8, "isLevel", "([I)Z"⟩
abbrev cX8_lifts : ByteArray := prog_10_method_35_code
def yX8_lifts : MethodName := ⟨RX8, "lifts", "([III)V"⟩
abbrev cX8_winds : ByteArray := prog_10_method_36_code
def yX8_winds : MethodName := ⟨RX8, "winds", "([II)V"⟩
abbrev cX8_does : ByteArray := prog_10_method_37_code
def yX8_does : MethodName := ⟨RX8, "does", "([II)V"⟩
abbrev cX8_hour : ByteArray := prog_10_method_38_code
def yX8_hour : MethodName := ⟨RX8, "hour", "([I)V"⟩
abbrev cX8_hoursOf : ByteArray := prog_10_method_39_code
def yX8_hoursOf : MethodName := ⟨RX8, "hoursOf", "([II)V"⟩
abbrev cX8_isDone : ByteArray := prog_10_method_40_code
def yX8_isDone : MethodName := ⟨RX8, "isDone", "(I)Z"⟩
abbrev cX8_layThen : ByteArray := prog_10_method_41_code
def yX8_layThen : MethodName := ⟨RX8, "layThen", "()V"⟩
abbrev cX8_keep : ByteArray := prog_10_method_42_code
def yX8_keep : MethodName := ⟨RX8, "keep", "()V"⟩
abbrev cX8_hours : ByteArray := prog_10_method_43_code
def yX8_hours : MethodName := ⟨RX8, "hours", "(I)I"⟩
abbrev cX8_perform : ByteArray := prog_10_method_44_code
def yX8_perform : MethodName := ⟨RX8, "perform", "(I)I"⟩
abbrev cX8_board : ByteArray := prog_10_method_45_code
def yX8_board : MethodName := ⟨RX8, "board", "(I)I"⟩
abbrev cX8_amount : ByteArray := prog_10_method_46_code
def yX8_amount : MethodName := ⟨RX8, "amount", "(II)I"⟩
abbrev cX8_jack : ByteArray := prog_10_method_47_code
def yX8_jack : MethodName := ⟨RX8, "jack", "(II)I"⟩
abbrev cX8_undo : ByteArray := prog_10_method_48_code
def yX8_undo : MethodName := ⟨RX8, "undo", "()I"⟩
abbrev cX8_foot : ByteArray := prog_10_method_49_code
def yX8_foot : MethodName := ⟨RX8, "foot", "(II)I"⟩
abbrev cX8_deed : ByteArray := prog_10_method_50_code
def yX8_deed : MethodName := ⟨RX8, "deed", "(II)I"⟩
abbrev cX8_lean : ByteArray := prog_10_method_51_code
def yX8_lean : MethodName := ⟨RX8, "lean", "(I)I"⟩
abbrev cX8_ahead : ByteArray := prog_10_method_52_code
def yX8_ahead : MethodName := ⟨RX8, "ahead", "(II)I"⟩
abbrev cX8_leanAhead : ByteArray := prog_10_method_53_code
def yX8_leanAhead : MethodName := ⟨RX8, "leanAhead", "(II)I"⟩
abbrev cX8_firstBy : ByteArray := prog_10_method_54_code
def yX8_firstBy : MethodName := ⟨RX8, "firstBy", "(Z)I"⟩
abbrev cX8_lasts : ByteArray := prog_10_method_55_code
def yX8_lasts : MethodName := ⟨RX8, "lasts", "()I"⟩
abbrev cX8_first : ByteArray := prog_10_method_56_code
def yX8_first : MethodName := ⟨RX8, "first", "()I"⟩
abbrev cX8_awryBy : ByteArray := prog_10_method_57_code
def yX8_awryBy : MethodName := ⟨RX8, "awryBy", "(I)I"⟩
abbrev cX8_attempt : ByteArray := prog_10_method_58_code
def yX8_attempt : MethodName := ⟨RX8, "attempt", "(I)I"⟩
abbrev cX8_best : ByteArray := prog_10_method_59_code
def yX8_best : MethodName := ⟨RX8, "best", "(I)I"⟩
abbrev cX8_layStep : ByteArray := prog_10_method_60_code
def yX8_layStep : MethodName := ⟨RX8, "layStep", "(I)V"⟩
abbrev cX8_isStepDone : ByteArray := prog_10_method_61_code
def yX8_isStepDone : MethodName := ⟨RX8, "isStepDone", "(II)Z"⟩
abbrev cX8_planned : ByteArray := prog_10_method_62_code
def yX8_planned : MethodName := ⟨RX8, "planned", "(II)Z"⟩
abbrev cX8_plan : ByteArray := prog_10_method_63_code
def yX8_plan : MethodName := ⟨RX8, "plan", "(II)I"⟩
abbrev cX8_boards : ByteArray := prog_10_method_64_code
def yX8_boards : MethodName := ⟨RX8, "boards", "(II)I"⟩
abbrev cX8_lift : ByteArray := prog_10_method_65_code
def yX8_lift : MethodName := ⟨RX8, "lift", "(I)I"⟩
abbrev cX8_worst : ByteArray := prog_10_method_66_code
def yX8_worst : MethodName := ⟨RX8, "worst", "(II)I"⟩
abbrev cX8_leansSo : ByteArray := prog_10_method_67_code
def yX8_leansSo : MethodName := ⟨RX8, "leansSo", "(III)Z"⟩
abbrev cX8_fits : ByteArray := prog_10_method_68_code
def yX8_fits : MethodName := ⟨RX8, "fits", "(IIIIIIII)I"⟩
abbrev cX8_who : ByteArray := prog_10_method_69_code
def yX8_who : MethodName := ⟨RX8, "who", "(IIIII)I"⟩
abbrev cX8_feet : ByteArray := prog_10_method_70_code
def yX8_feet : MethodName := ⟨RX8, "feet", "(IIIII)I"⟩
abbrev cX8_amounts : ByteArray := prog_10_method_71_code
def yX8_amounts : MethodName := ⟨RX8, "amounts", "(IIIII)I"⟩
abbrev cX8_wrong : ByteArray := prog_10_method_72_code
def yX8_wrong : MethodName := ⟨RX8, "wrong", "(II)J"⟩
abbrev cX8_drawn : ByteArray := prog_10_method_73_code
def yX8_drawn : MethodName := ⟨RX8, "drawn", "(III)I"⟩
abbrev cX8_image : ByteArray := prog_10_method_74_code
def yX8_image : MethodName := ⟨RX8, "image", "(I)I"⟩
abbrev cX8_restore : ByteArray := prog_10_method_75_code
def yX8_restore : MethodName := ⟨RX8, "restore", "(I)I"⟩
abbrev cX8_isOf : ByteArray := prog_10_method_76_code
def yX8_isOf : MethodName := ⟨RX8, "isOf", "(II)Z"⟩
abbrev cX8_kind : ByteArray := prog_10_method_77_code
def yX8_kind : MethodName := ⟨RX8, "kind", "(I)I"⟩
abbrev cX8_as : ByteArray := prog_10_method_78_code
def yX8_as : MethodName := ⟨RX8, "as", "(II)I"⟩
abbrev cX8_began : ByteArray := prog_10_method_79_code
def yX8_began : MethodName := ⟨RX8, "began", "(I)V"⟩
abbrev cX8_plainSize : ByteArray := prog_10_method_80_code
def yX8_plainSize : MethodName := ⟨RX8, "plainSize", "(I)I"⟩
abbrev cX8_woundSize : ByteArray := prog_10_method_81_code
def yX8_woundSize : MethodName := ⟨RX8, "woundSize", "(I)I"⟩
abbrev cX8_markOf : ByteArray := prog_10_method_82_code
def yX8_markOf : MethodName := ⟨RX8, "markOf", "(I)I"⟩
abbrev cX8_sizeOf : ByteArray := prog_10_method_83_code
def yX8_sizeOf : MethodName := ⟨RX8, "sizeOf", "(I)I"⟩
abbrev cX8_ask : ByteArray := prog_10_method_84_code
def yX8_ask : MethodName := ⟨RX8, "ask", "(II)I"⟩
abbrev cX8_trace : ByteArray := prog_10_method_85_code
def yX8_trace : MethodName := ⟨RX8, "trace", "(I)I"⟩
abbrev cX8_count : ByteArray := prog_10_method_86_code
def yX8_count : MethodName := ⟨RX8, "count", "(I)I"⟩
abbrev cX8_status : ByteArray := prog_10_method_87_code
def yX8_status : MethodName := ⟨RX8, "status", "()I"⟩
def RJ6 : String := "java/lang/Integer"
def TJ6 : u_T := fun k => match k with
  | _ => ("", "", "", false)
def tyJ6 : Nat → FieldType := fun k => match k with
  | _ => .int
abbrev wsJ60 : List Cond := u_ws RJ6 TJ6 0
theorem nmJ6 : ∀ a, a < 0 → ∀ b, b < 0 → a ≠ b → (TJ6 a).2.1 ≠ (TJ6 b).2.1 := by decide +kernel
theorem tyJ6_ok : ∀ k, k < 0 → parseFieldDescriptor (TJ6 k).2.2.1 = some (tyJ6 k) := by decide +kernel
abbrev cJ6_bitCount_0f7a4 : ByteArray := prog_11_method_49_code
def yJ6_bitCount_0f7a4 : MethodName := ⟨RJ6, "bitCount", "(I)I"⟩
def RJ9 : String := "java/lang/Math"
def TJ9 : u_T := fun k => match k with
  | _ => ("", "", "", false)
def tyJ9 : Nat → FieldType := fun k => match k with
  | _ => .int
abbrev wsJ90 : List Cond := u_ws RJ9 TJ9 0
theorem nmJ9 : ∀ a, a < 0 → ∀ b, b < 0 → a ≠ b → (TJ9 a).2.1 ≠ (TJ9 b).2.1 := by decide +kernel
theorem tyJ9_ok : ∀ k, k < 0 → parseFieldDescriptor (TJ9 k).2.2.1 = some (tyJ9 k) := by decide +kernel
abbrev cJ9_abs_0f7a4 : ByteArray := prog_12_method_59_code
def yJ9_abs_0f7a4 : MethodName := ⟨RJ9, "abs", "(I)I"⟩
abbrev cJ9_max_7cf53 : ByteArray := prog_12_method_65_code
def yJ9_max_7cf53 : MethodName := ⟨RJ9, "max", "(II)I"⟩
abbrev cJ9_min_7cf53 : ByteArray := prog_12_method_69_code
def yJ9_min_7cf53 : MethodName := ⟨RJ9, "min", "(II)I"⟩
def RJ10 : String := "java/lang/System"
def TJ10 : u_T := fun k => match k with
  | _ => ("", "", "", false)
def tyJ10 : Nat → FieldType := fun k => match k with
  | _ => .int
abbrev wsJ100 : List Cond := u_ws RJ10 TJ10 0
theorem nmJ10 : ∀ a, a < 0 → ∀ b, b < 0 → a ≠ b → (TJ10 a).2.1 ≠ (TJ10 b).2.1 := by decide +kernel
theorem tyJ10_ok : ∀ k, k < 0 → parseFieldDescriptor (TJ10 k).2.2.1 = some (tyJ10 k) := by decide +kernel
def RL : String := "NightLevelLaw"
abbrev cL_law : ByteArray := code
def yL_law : MethodName := ⟨RL, "law", "([I)Z"⟩
def wsL_law_r1 : List Cond := [Cond.classLink RL 7 RX7, Cond.instantiable RX7 10, Cond.initialized RX7, Cond.classLink RL 10 RX8, Cond.instantiable RX8 25, Cond.initialized RX8, Cond.methodLink RL 9 yX7_init, Cond.instanceMethod yX7_init, Cond.code yX7_init cX7_init 1 none, Cond.methodLink RX7 1 objectInit, Cond.instanceMethod objectInit, Cond.code objectInit ⟨#[0xb1]⟩ 1 none, Cond.classLink RX7 7 RX3, Cond.instantiable RX3 3, Cond.initialized RX3, Cond.fieldLink RX7 10 "NightLevel" "shelf" "LNightLevel$Shelf;", Cond.classLink RX7 16 RX6, Cond.instantiable RX6 4, Cond.initialized RX6, Cond.fieldLink RX7 19 "NightLevel" "tape" "LNightLevel$Tape;", Cond.classLink RX7 23 RX4, Cond.instantiable RX4 11, Cond.initialized RX4, Cond.fieldLink RX7 26 "NightLevel" "here" "LNightLevel$Site;"]
def wsL_law_r2 : List Cond := [Cond.fieldLink RX7 30 "NightLevel" "draft" "LNightLevel$Site;", Cond.fieldLink RX7 33 "NightLevel" "images" "[LNightLevel$Site;", Cond.classLink RX7 37 RX0, Cond.instantiable RX0 3, Cond.initialized RX0, Cond.fieldLink RX7 40 "NightLevel" "acts" "LNightLevel$Acts;", Cond.classLink RX7 44 RX2, Cond.instantiable RX2 5, Cond.initialized RX2, Cond.fieldLink RX7 47 "NightLevel" "foresight" "LNightLevel$Foresight;", Cond.classLink RX7 51 RX1, Cond.instantiable RX1 2, Cond.initialized RX1, Cond.fieldLink RX7 54 "NightLevel" "asker" "LNightLevel$Asker;", Cond.instanceMethod yX3_init, Cond.code yX3_init cX3_init 1 none, Cond.methodLink RX3 1 objectInit, Cond.classLink RX3 9 "[[I", Cond.arrayClass .int, Cond.fieldLink RX3 11 "NightLevel$Shelf" "items" "[[I", Cond.fieldLink RX3 14 "NightLevel$Shelf" "lanes" "[I", Cond.fieldLink RX3 18 "NightLevel$Shelf" "sizes" "[I", Cond.instanceMethod yX6_init, Cond.code yX6_init cX6_init 1 none]
def wsL_law_r3 : List Cond := [Cond.methodLink RX6 3 objectInit, Cond.fieldLink RX6 11 "NightLevel$Tape" "bytes" "[I", Cond.instanceMethod yX4_init, Cond.code yX4_init cX4_init 1 none, Cond.methodLink RX4 3 objectInit, Cond.fieldLink RX4 9 "NightLevel$Site" "rain" "I", Cond.fieldLink RX4 15 "NightLevel$Site" "kindOf" "[I", Cond.fieldLink RX4 19 "NightLevel$Site" "footOf" "[I", Cond.fieldLink RX4 22 "NightLevel$Site" "amountOf" "[I", Cond.classLink RX4 25 RX5, Cond.instantiable RX5 2, Cond.initialized RX5, Cond.fieldLink RX4 28 "NightLevel$Site" "stance" "LNightLevel$Stance;", Cond.instanceMethod yX5_init, Cond.code yX5_init cX5_init 1 none, Cond.methodLink RX5 3 objectInit, Cond.fieldLink RX5 9 "NightLevel$Stance" "height" "[I", Cond.fieldLink RX5 15 "NightLevel$Stance" "soft" "[I", Cond.instanceMethod yX0_init, Cond.code yX0_init cX0_init 1 none, Cond.methodLink RX0 1 objectInit, Cond.fieldLink RX0 11 "NightLevel$Acts" "kept" "[I", Cond.instanceMethod yX2_init, Cond.code yX2_init cX2_init 1 none]
def wsL_law_r4 : List Cond := [Cond.methodLink RX2 3 objectInit, Cond.classLink RX2 9 RX5, Cond.fieldLink RX2 12 "NightLevel$Foresight" "trial" "LNightLevel$Stance;", Cond.fieldLink RX2 18 "NightLevel$Foresight" "chosen" "[I", Cond.fieldLink RX2 22 "NightLevel$Foresight" "shares" "[I", Cond.fieldLink RX2 25 "NightLevel$Foresight" "later" "LNightLevel$Stance;", Cond.fieldLink RX2 28 "NightLevel$Foresight" "steps" "[LNightLevel$Stance;", Cond.instanceMethod yX1_init, Cond.code yX1_init cX1_init 1 none, Cond.methodLink RX1 1 objectInit, Cond.fieldLink RX1 9 "NightLevel$Asker" "bodies" "[I", Cond.methodLink RL 12 yX8_init, Cond.instanceMethod yX8_init, Cond.code yX8_init cX8_init 1 none, Cond.methodLink RX8 1 objectInit, Cond.fieldLink RX8 7 "NightLevelModel" "lane" "[I", Cond.fieldLink RX8 13 "NightLevelModel" "many" "[I", Cond.fieldLink RX8 16 "NightLevelModel" "item" "[I", Cond.fieldLink RX8 19 "NightLevelModel" "site" "[I", Cond.fieldLink RX8 22 "NightLevelModel" "fresh" "[I", Cond.fieldLink RX8 25 "NightLevelModel" "then" "[I", Cond.fieldLink RX8 28 "NightLevelModel" "was" "[I", Cond.fieldLink RX8 31 "NightLevelModel" "tape" "[I", Cond.fieldLink RX8 34 "NightLevelModel" "steps" "[I"]
def wsL_law_r5 : List Cond := [Cond.fieldLink RX8 37 "NightLevelModel" "tried" "[I", Cond.arrayClass .boolean, Cond.fieldLink RX8 40 "NightLevelModel" "isKept" "[Z", Cond.fieldLink RX8 44 "NightLevelModel" "kept" "[I", Cond.fieldLink RX8 47 "NightLevelModel" "trace" "[I", Cond.methodLink RL 13 yX7_row, Cond.instanceMethod yX7_row, Cond.selects RX7 yX7_row yX7_row, Cond.code yX7_row cX7_row 4 (some .int), Cond.constant RX7 66 (-1000001), Cond.methodLink RX7 58 yX3_isRow, Cond.instanceMethod yX3_isRow, Cond.selects RX3 yX3_isRow yX3_isRow, Cond.code yX3_isRow cX3_isRow 2 (some .boolean), Cond.methodLink RX7 62 yX7_isWithin, Cond.static yX7_isWithin, Cond.code yX7_isWithin cX7_isWithin 3 (some .boolean), Cond.methodLink RX7 67 yX7_found, Cond.instanceMethod yX7_found, Cond.selects RX7 yX7_found yX7_found, Cond.code yX7_found cX7_found 2 (some .int), Cond.fieldLink RX7 306 "NightLevel" "latestFinding" "I", Cond.constant RX7 309 (-1000010), Cond.methodLink RX7 71 yX3_make]
def wsL_law_r6 : List Cond := [Cond.instanceMethod yX3_make, Cond.selects RX3 yX3_make yX3_make, Cond.code yX3_make cX3_make 5 (some .int), Cond.methodLink RX7 75 yX7_unfound, Cond.instanceMethod yX7_unfound, Cond.selects RX7 yX7_unfound yX7_unfound, Cond.code yX7_unfound cX7_unfound 2 (some .int), Cond.methodLink RL 17 yX8_row, Cond.instanceMethod yX8_row, Cond.selects RX8 yX8_row yX8_row, Cond.code yX8_row cX8_row 5 (some .int), Cond.fieldLink RX8 50 "NightLevelModel" "thrown" "I", Cond.constantLong RX8 68 (2), Cond.constant RX8 70 (-1000001), Cond.fieldLink RX8 54 "NightLevelModel" "status" "I", Cond.methodLink RX8 64 yX8_isRow, Cond.static yX8_isRow, Cond.code yX8_isRow cX8_isRow 1 (some .boolean), Cond.constantLong RX8 58 (7), Cond.methodLink RX8 60 yX8_in, Cond.static yX8_in, Cond.code yX8_in cX8_in 6 (some .boolean), Cond.methodLink RX8 71 yX8_finding, Cond.instanceMethod yX8_finding]
def wsL_law_r7 : List Cond := [Cond.selects RX8 yX8_finding yX8_finding, Cond.code yX8_finding cX8_finding 2 (some .int), Cond.constant RX8 57 (-1000010), Cond.methodLink RL 18 yX7_set, Cond.instanceMethod yX7_set, Cond.selects RX7 yX7_set yX7_set, Cond.code yX7_set cX7_set 4 (some .int), Cond.methodLink RX7 78 yX3_isMissing, Cond.instanceMethod yX3_isMissing, Cond.selects RX3 yX3_isMissing yX3_isMissing, Cond.code yX3_isMissing cX3_isMissing 2 (some .boolean), Cond.methodLink RX7 81 yX3_hasPlaces, Cond.instanceMethod yX3_hasPlaces, Cond.selects RX3 yX3_hasPlaces yX3_hasPlaces, Cond.code yX3_hasPlaces cX3_hasPlaces 4 (some .boolean), Cond.methodLink RX7 84 yX3_put, Cond.instanceMethod yX3_put, Cond.selects RX3 yX3_put yX3_put, Cond.code yX3_put cX3_put 4 (some .int), Cond.methodLink RL 21 yX8_set, Cond.instanceMethod yX8_set, Cond.selects RX8 yX8_set yX8_set, Cond.code yX8_set cX8_set 4 (some .int), Cond.methodLink RL 22 yX7_copy]
def wsL_law_r8 : List Cond := [Cond.instanceMethod yX7_copy, Cond.selects RX7 yX7_copy yX7_copy, Cond.code yX7_copy cX7_copy 6 (some .int), Cond.methodLink RX7 87 yX3_haveOneLane, Cond.instanceMethod yX3_haveOneLane, Cond.selects RX3 yX3_haveOneLane yX3_haveOneLane, Cond.code yX3_haveOneLane cX3_haveOneLane 3 (some .boolean), Cond.methodLink RX7 91 yX3_move, Cond.instanceMethod yX3_move, Cond.selects RX3 yX3_move yX3_move, Cond.code yX3_move cX3_move 6 (some .int), Cond.methodLink RX3 25 arraycopyName, Cond.native arraycopyName, Cond.static arraycopyName, Cond.initialized "java/lang/System", Cond.methodLink RL 26 yX8_copy, Cond.instanceMethod yX8_copy, Cond.selects RX8 yX8_copy yX8_copy, Cond.code yX8_copy cX8_copy 9 (some .int), Cond.methodLink RL 27 yX7_drop, Cond.instanceMethod yX7_drop, Cond.selects RX7 yX7_drop yX7_drop, Cond.code yX7_drop cX7_drop 2 (some .int), Cond.methodLink RX7 95 yX3_remove]
def wsL_law_r9 : List Cond := [Cond.instanceMethod yX3_remove, Cond.selects RX3 yX3_remove yX3_remove, Cond.code yX3_remove cX3_remove 2 (some .int), Cond.methodLink RL 31 yX8_drop, Cond.instanceMethod yX8_drop, Cond.selects RX8 yX8_drop yX8_drop, Cond.code yX8_drop cX8_drop 2 (some .int), Cond.methodLink RL 32 yX7_feed, Cond.instanceMethod yX7_feed, Cond.selects RX7 yX7_feed yX7_feed, Cond.code yX7_feed cX7_feed 2 (some .int), Cond.constant RX7 102 (-1000003), Cond.methodLink RX7 98 yX6_isFull, Cond.instanceMethod yX6_isFull, Cond.selects RX6 yX6_isFull yX6_isFull, Cond.code yX6_isFull cX6_isFull 1 (some .boolean), Cond.fieldLink RX6 15 "NightLevel$Tape" "length" "I", Cond.methodLink RX7 103 yX6_add, Cond.instanceMethod yX6_add, Cond.selects RX6 yX6_add yX6_add, Cond.code yX6_add cX6_add 2 (some .int), Cond.methodLink RL 35 yX8_feed, Cond.instanceMethod yX8_feed, Cond.selects RX8 yX8_feed yX8_feed]
def wsL_law_r10 : List Cond := [Cond.code yX8_feed cX8_feed 2 (some .int), Cond.constantLong RX8 75 (255), Cond.fieldLink RX8 77 "NightLevelModel" "taped" "I", Cond.constant RX8 80 (-1000003), Cond.methodLink RL 36 yX7_site, Cond.instanceMethod yX7_site, Cond.selects RX7 yX7_site yX7_site, Cond.code yX7_site cX7_site 2 (some .int), Cond.fieldLink RX7 113 "NightLevel$Tape" "fault" "I", Cond.fieldLink RX7 117 "NightLevel" "latestFault" "I", Cond.constant RX7 120 (-1000100), Cond.fieldLink RX7 121 "NightLevel$Tape" "at" "I", Cond.fieldLink RX7 131 "NightLevel$Site" "deedCount" "I", Cond.methodLink RX7 106 yX6_readInto, Cond.instanceMethod yX6_readInto, Cond.selects RX6 yX6_readInto yX6_readInto, Cond.code yX6_readInto cX6_readInto 2 (some .boolean), Cond.fieldLink RX6 19 "NightLevel$Tape" "at" "I", Cond.fieldLink RX6 22 "NightLevel$Tape" "fault" "I", Cond.fieldLink RX6 34 "NightLevel$Site" "stance" "LNightLevel$Stance;", Cond.fieldLink RX6 45 "NightLevel$Site" "stands" "Z", Cond.methodLink RX6 25 yX4_clear, Cond.instanceMethod yX4_clear, Cond.selects RX4 yX4_clear yX4_clear]
def wsL_law_r11 : List Cond := [Cond.code yX4_clear cX4_clear 1 none, Cond.fieldLink RX4 32 "NightLevel$Site" "stands" "Z", Cond.fieldLink RX4 36 "NightLevel$Site" "hour" "I", Cond.fieldLink RX4 39 "NightLevel$Site" "deedCount" "I", Cond.fieldLink RX4 42 "NightLevel$Site" "done" "I", Cond.methodLink RX6 30 yX6_readLaw, Cond.instanceMethod yX6_readLaw, Cond.selects RX6 yX6_readLaw yX6_readLaw, Cond.code yX6_readLaw cX6_readLaw 2 (some .boolean), Cond.fieldLink RX6 57 "NightLevel$Site" "egg" "I", Cond.fieldLink RX6 60 "NightLevel$Site" "bed" "I", Cond.fieldLink RX6 63 "NightLevel$Site" "rain" "I", Cond.methodLink RX6 49 yX6_take, Cond.instanceMethod yX6_take, Cond.selects RX6 yX6_take yX6_take, Cond.code yX6_take cX6_take 2 (some .boolean), Cond.methodLink RX6 84 yX6_stop, Cond.instanceMethod yX6_stop, Cond.selects RX6 yX6_stop yX6_stop, Cond.code yX6_stop cX6_stop 2 (some .boolean), Cond.methodLink RX6 53 yX6_takeNumber, Cond.instanceMethod yX6_takeNumber, Cond.selects RX6 yX6_takeNumber yX6_takeNumber, Cond.code yX6_takeNumber cX6_takeNumber 7 (some .int)]
def wsL_law_r12 : List Cond := [Cond.methodLink RX6 38 yX6_readAllFeet, Cond.instanceMethod yX6_readAllFeet, Cond.selects RX6 yX6_readAllFeet yX6_readAllFeet, Cond.code yX6_readAllFeet cX6_readAllFeet 3 (some .boolean), Cond.fieldLink RX6 66 "NightLevel$Stance" "height" "[I", Cond.fieldLink RX6 71 "NightLevel$Stance" "soft" "[I", Cond.methodLink RX6 42 yX6_readDeeds, Cond.instanceMethod yX6_readDeeds, Cond.selects RX6 yX6_readDeeds yX6_readDeeds, Cond.code yX6_readDeeds cX6_readDeeds 3 (some .boolean), Cond.methodLink RX6 74 yX6_readDeed, Cond.instanceMethod yX6_readDeed, Cond.selects RX6 yX6_readDeed yX6_readDeed, Cond.code yX6_readDeed cX6_readDeed 6 (some .boolean), Cond.fieldLink RX6 81 "NightLevel$Site" "deedCount" "I", Cond.methodLink RX6 77 yX6_kindTold, Cond.static yX6_kindTold, Cond.code yX6_kindTold cX6_kindTold 1 (some .int), Cond.methodLink RX6 88 yX4_addDeed, Cond.instanceMethod yX4_addDeed, Cond.selects RX4 yX4_addDeed yX4_addDeed, Cond.code yX4_addDeed cX4_addDeed 4 none, Cond.methodLink RX7 110 yX6_clear, Cond.instanceMethod yX6_clear]
def wsL_law_r13 : List Cond := [Cond.selects RX6 yX6_clear yX6_clear, Cond.code yX6_clear cX6_clear 1 none, Cond.methodLink RX7 124 yX4_copyFrom, Cond.instanceMethod yX4_copyFrom, Cond.selects RX4 yX4_copyFrom yX4_copyFrom, Cond.code yX4_copyFrom cX4_copyFrom 2 none, Cond.fieldLink RX4 45 "NightLevel$Site" "egg" "I", Cond.fieldLink RX4 48 "NightLevel$Site" "bed" "I", Cond.methodLink RX4 51 arraycopyName, Cond.methodLink RX4 57 yX5_copyFrom, Cond.instanceMethod yX5_copyFrom, Cond.selects RX5 yX5_copyFrom yX5_copyFrom, Cond.code yX5_copyFrom cX5_copyFrom 2 none, Cond.methodLink RX5 18 arraycopyName, Cond.methodLink RX7 128 yX0_forget, Cond.instanceMethod yX0_forget, Cond.selects RX0 yX0_forget yX0_forget, Cond.code yX0_forget cX0_forget 1 none, Cond.fieldLink RX0 15 "NightLevel$Acts" "size" "I", Cond.methodLink RL 40 yX8_site, Cond.instanceMethod yX8_site, Cond.selects RX8 yX8_site yX8_site, Cond.code yX8_site cX8_site 2 (some .int), Cond.constant RX8 151 (-1000100)]
def wsL_law_r14 : List Cond := [Cond.fieldLink RX8 87 "NightLevelModel" "faultAt" "I", Cond.fieldLink RX8 152 "NightLevelModel" "acts" "I", Cond.methodLink RX8 135 yX8_begin, Cond.instanceMethod yX8_begin, Cond.selects RX8 yX8_begin yX8_begin, Cond.code yX8_begin cX8_begin 1 none, Cond.fieldLink RX8 90 "NightLevelModel" "cursor" "I", Cond.fieldLink RX8 81 "NightLevelModel" "fault" "I", Cond.methodLink RX8 112 yX8_nextToken, Cond.instanceMethod yX8_nextToken, Cond.selects RX8 yX8_nextToken yX8_nextToken, Cond.code yX8_nextToken cX8_nextToken 1 none, Cond.fieldLink RX8 84 "NightLevelModel" "start" "I", Cond.constant RX8 93 (-1000000), Cond.fieldLink RX8 94 "NightLevelModel" "value" "I", Cond.constantLong RX8 97 (97), Cond.constantLong RX8 99 (122), Cond.constantLong RX8 101 (48), Cond.constantLong RX8 103 (57), Cond.fieldLink RX8 105 "NightLevelModel" "token" "I", Cond.methodLink RX8 125 yX8_isLetter, Cond.instanceMethod yX8_isLetter, Cond.selects RX8 yX8_isLetter yX8_isLetter, Cond.code yX8_isLetter cX8_isLetter 2 (some .boolean)]
def wsL_law_r15 : List Cond := [Cond.methodLink RX8 115 yX8_must, Cond.instanceMethod yX8_must, Cond.selects RX8 yX8_must yX8_must, Cond.code yX8_must cX8_must 2 none, Cond.methodLink RX8 108 yX8_bad, Cond.instanceMethod yX8_bad, Cond.selects RX8 yX8_bad yX8_bad, Cond.code yX8_bad cX8_bad 2 none, Cond.methodLink RX8 128 yX8_number, Cond.instanceMethod yX8_number, Cond.selects RX8 yX8_number yX8_number, Cond.code yX8_number cX8_number 4 (some .int), Cond.methodLink RX8 132 yX8_mustSign, Cond.instanceMethod yX8_mustSign, Cond.selects RX8 yX8_mustSign yX8_mustSign, Cond.code yX8_mustSign cX8_mustSign 2 none, Cond.methodLink RX8 138 yX8_readFoot, Cond.instanceMethod yX8_readFoot, Cond.selects RX8 yX8_readFoot yX8_readFoot, Cond.code yX8_readFoot cX8_readFoot 2 none, Cond.methodLink RX8 141 yX8_isSort, Cond.instanceMethod yX8_isSort, Cond.selects RX8 yX8_isSort yX8_isSort, Cond.code yX8_isSort cX8_isSort 1 (some .boolean)]
def wsL_law_r16 : List Cond := [Cond.methodLink RX8 122 yX8_kindBy, Cond.static yX8_kindBy, Cond.code yX8_kindBy cX8_kindBy 1 (some .int), Cond.methodLink RX8 145 yX8_readDeed, Cond.instanceMethod yX8_readDeed, Cond.selects RX8 yX8_readDeed yX8_readDeed, Cond.code yX8_readDeed cX8_readDeed 5 none, Cond.methodLink RX8 148 yX8_failed, Cond.instanceMethod yX8_failed, Cond.selects RX8 yX8_failed yX8_failed, Cond.code yX8_failed cX8_failed 1 (some .boolean), Cond.fieldLink RX8 119 "NightLevelModel" "latest" "I", Cond.methodLink RL 41 yX7_fault, Cond.instanceMethod yX7_fault, Cond.selects RX7 yX7_fault yX7_fault, Cond.code yX7_fault cX7_fault 1 (some .int), Cond.methodLink RL 44 yX8_fault, Cond.instanceMethod yX8_fault, Cond.selects RX8 yX8_fault yX8_fault, Cond.code yX8_fault cX8_fault 1 (some .int), Cond.methodLink RL 45 yX7_undo, Cond.instanceMethod yX7_undo, Cond.selects RX7 yX7_undo yX7_undo, Cond.code yX7_undo cX7_undo 1 (some .int)]
def wsL_law_r17 : List Cond := [Cond.fieldLink RX7 134 "NightLevel$Acts" "size" "I", Cond.constant RX7 137 (-1000002), Cond.methodLink RX7 138 yX0_takeBack, Cond.instanceMethod yX0_takeBack, Cond.selects RX0 yX0_takeBack yX0_takeBack, Cond.code yX0_takeBack cX0_takeBack 2 none, Cond.fieldLink RX0 19 "NightLevel$Acts" "next" "I", Cond.methodLink RX0 32 yX4_load, Cond.instanceMethod yX4_load, Cond.selects RX4 yX4_load yX4_load, Cond.code yX4_load cX4_load 3 none, Cond.fieldLink RX4 90 "NightLevel$Stance" "height" "[I", Cond.fieldLink RX4 93 "NightLevel$Stance" "soft" "[I", Cond.methodLink RL 48 yX8_undo, Cond.instanceMethod yX8_undo, Cond.selects RX8 yX8_undo yX8_undo, Cond.code yX8_undo cX8_undo 2 (some .int), Cond.constant RX8 187 (-1000002), Cond.methodLink RL 49 yX7_hours, Cond.instanceMethod yX7_hours, Cond.selects RX7 yX7_hours yX7_hours, Cond.code yX7_hours cX7_hours 3 (some .int), Cond.fieldLink RX7 141 "NightLevel$Site" "stands" "Z", Cond.fieldLink RX7 145 "NightLevel$Site" "hour" "I"]
def wsL_law_r18 : List Cond := [Cond.fieldLink RX7 154 "NightLevel$Site" "stance" "LNightLevel$Stance;", Cond.methodLink RX7 148 yX0_keep, Cond.instanceMethod yX0_keep, Cond.selects RX0 yX0_keep yX0_keep, Cond.code yX0_keep cX0_keep 2 none, Cond.methodLink RX0 26 Lib.Math.min.name, Cond.static Lib.Math.min.name, Cond.initialized "java/lang/Math", Cond.code Lib.Math.min.name Lib.Math.min.code 2 (some .int), Cond.methodLink RX0 22 yX4_save, Cond.instanceMethod yX4_save, Cond.selects RX4 yX4_save yX4_save, Cond.code yX4_save cX4_save 3 none, Cond.methodLink RX7 151 yX4_passHour, Cond.instanceMethod yX4_passHour, Cond.selects RX4 yX4_passHour yX4_passHour, Cond.code yX4_passHour cX4_passHour 1 none, Cond.methodLink RX4 83 yX4_rainsWithin, Cond.instanceMethod yX4_rainsWithin, Cond.selects RX4 yX4_rainsWithin yX4_rainsWithin, Cond.code yX4_rainsWithin cX4_rainsWithin 2 (some .int), Cond.methodLink RX4 86 yX5_sink, Cond.instanceMethod yX5_sink, Cond.selects RX5 yX5_sink yX5_sink]
def wsL_law_r19 : List Cond := [Cond.code yX5_sink cX5_sink 3 none, Cond.methodLink RX5 47 yX5_shift, Cond.instanceMethod yX5_shift, Cond.selects RX5 yX5_shift yX5_shift, Cond.code yX5_shift cX5_shift 3 none, Cond.methodLink RX5 40 Lib.Math.min.name, Cond.methodLink RX5 44 Lib.Math.max.name, Cond.static Lib.Math.max.name, Cond.code Lib.Math.max.name Lib.Math.max.code 2 (some .int), Cond.methodLink RX7 158 yX5_awry, Cond.instanceMethod yX5_awry, Cond.selects RX5 yX5_awry yX5_awry, Cond.code yX5_awry cX5_awry 1 (some .int), Cond.methodLink RX5 34 Lib.Math.abs.name, Cond.static Lib.Math.abs.name, Cond.code Lib.Math.abs.name Lib.Math.abs.code 1 (some .int), Cond.methodLink RX5 28 yX5_side, Cond.instanceMethod yX5_side, Cond.selects RX5 yX5_side yX5_side, Cond.code yX5_side cX5_side 1 (some .int), Cond.methodLink RX5 31 yX5_along, Cond.instanceMethod yX5_along, Cond.selects RX5 yX5_along yX5_along, Cond.code yX5_along cX5_along 1 (some .int)]
def wsL_law_r20 : List Cond := [Cond.methodLink RX5 24 yX5_middle, Cond.instanceMethod yX5_middle, Cond.selects RX5 yX5_middle yX5_middle, Cond.code yX5_middle cX5_middle 1 (some .int), Cond.methodLink RL 52 yX8_hours, Cond.instanceMethod yX8_hours, Cond.selects RX8 yX8_hours yX8_hours, Cond.code yX8_hours cX8_hours 3 (some .int), Cond.constantLong RX8 188 (24), Cond.methodLink RX8 184 yX8_isThere, Cond.instanceMethod yX8_isThere, Cond.selects RX8 yX8_isThere yX8_isThere, Cond.code yX8_isThere cX8_isThere 1 (some .boolean), Cond.methodLink RX8 190 yX8_keep, Cond.instanceMethod yX8_keep, Cond.selects RX8 yX8_keep yX8_keep, Cond.code yX8_keep cX8_keep 2 none, Cond.methodLink RX8 180 yX8_hour, Cond.static yX8_hour, Cond.code yX8_hour cX8_hour 2 none, Cond.methodLink RX8 168 yX8_lifts, Cond.static yX8_lifts, Cond.code yX8_lifts cX8_lifts 4 none, Cond.methodLink RX8 193 yX8_awryOf]
def wsL_law_r21 : List Cond := [Cond.static yX8_awryOf, Cond.code yX8_awryOf cX8_awryOf 1 (some .int), Cond.methodLink RX8 159 yX8_sideOf, Cond.static yX8_sideOf, Cond.code yX8_sideOf cX8_sideOf 1 (some .int), Cond.methodLink RX8 162 yX8_off, Cond.static yX8_off, Cond.code yX8_off cX8_off 1 (some .int), Cond.methodLink RX8 165 yX8_alongOf, Cond.static yX8_alongOf, Cond.code yX8_alongOf cX8_alongOf 1 (some .int), Cond.methodLink RX8 155 yX8_middleOf, Cond.static yX8_middleOf, Cond.code yX8_middleOf cX8_middleOf 1 (some .int), Cond.methodLink RL 53 yX7_perform, Cond.instanceMethod yX7_perform, Cond.selects RX7 yX7_perform yX7_perform, Cond.code yX7_perform cX7_perform 2 (some .int), Cond.fieldLink RX7 174 "NightLevel$Site" "done" "I", Cond.methodLink RX7 164 yX4_hasDeed, Cond.instanceMethod yX4_hasDeed, Cond.selects RX4 yX4_hasDeed yX4_hasDeed, Cond.code yX4_hasDeed cX4_hasDeed 2 (some .boolean), Cond.methodLink RX7 167 yX4_isDone]
def wsL_law_r22 : List Cond := [Cond.instanceMethod yX4_isDone, Cond.selects RX4 yX4_isDone yX4_isDone, Cond.code yX4_isDone cX4_isDone 2 (some .boolean), Cond.methodLink RX7 170 yX4_enact, Cond.instanceMethod yX4_enact, Cond.selects RX4 yX4_enact yX4_enact, Cond.code yX4_enact cX4_enact 3 none, Cond.methodLink RX4 79 yX5_enact, Cond.instanceMethod yX5_enact, Cond.selects RX5 yX5_enact yX5_enact, Cond.code yX5_enact cX5_enact 4 none, Cond.methodLink RX5 51 yX5_soften, Cond.instanceMethod yX5_soften, Cond.selects RX5 yX5_soften yX5_soften, Cond.code yX5_soften cX5_soften 3 none, Cond.methodLink RX5 54 yX5_wind, Cond.instanceMethod yX5_wind, Cond.selects RX5 yX5_wind yX5_wind, Cond.code yX5_wind cX5_wind 2 none, Cond.methodLink RX5 58 yX5_changeWheels, Cond.instanceMethod yX5_changeWheels, Cond.selects RX5 yX5_changeWheels yX5_changeWheels, Cond.code yX5_changeWheels cX5_changeWheels 3 none, Cond.methodLink RL 56 yX8_perform]
def wsL_law_r23 : List Cond := [Cond.instanceMethod yX8_perform, Cond.selects RX8 yX8_perform yX8_perform, Cond.code yX8_perform cX8_perform 2 (some .int), Cond.methodLink RX8 196 yX8_isDeed, Cond.instanceMethod yX8_isDeed, Cond.selects RX8 yX8_isDeed yX8_isDeed, Cond.code yX8_isDeed cX8_isDeed 2 (some .boolean), Cond.methodLink RX8 199 yX8_isDone, Cond.instanceMethod yX8_isDone, Cond.selects RX8 yX8_isDone yX8_isDone, Cond.code yX8_isDone cX8_isDone 2 (some .boolean), Cond.methodLink RX8 202 yX8_does, Cond.static yX8_does, Cond.code yX8_does cX8_does 6 none, Cond.methodLink RX8 172 yX8_of, Cond.static yX8_of, Cond.code yX8_of cX8_of 3 (some .int), Cond.methodLink RX8 176 yX8_winds, Cond.static yX8_winds, Cond.code yX8_winds cX8_winds 2 none, Cond.methodLink RL 57 yX7_board, Cond.instanceMethod yX7_board, Cond.selects RX7 yX7_board yX7_board, Cond.code yX7_board cX7_board 2 (some .int)]
def wsL_law_r24 : List Cond := [Cond.fieldLink RX7 180 "NightLevel$Stance" "soft" "[I", Cond.methodLink RX7 177 yX7_isFoot, Cond.static yX7_isFoot, Cond.code yX7_isFoot cX7_isFoot 1 (some .boolean), Cond.methodLink RX7 184 yX5_soften, Cond.methodLink RL 60 yX8_board, Cond.instanceMethod yX8_board, Cond.selects RX8 yX8_board yX8_board, Cond.code yX8_board cX8_board 2 (some .int), Cond.methodLink RX8 205 yX8_isFoot, Cond.static yX8_isFoot, Cond.code yX8_isFoot cX8_isFoot 1 (some .boolean), Cond.methodLink RL 61 yX7_amount, Cond.instanceMethod yX7_amount, Cond.selects RX7 yX7_amount yX7_amount, Cond.code yX7_amount cX7_amount 4 (some .int), Cond.fieldLink RX7 191 "NightLevel$Site" "amountOf" "[I", Cond.methodLink RX7 188 yX7_isAmount, Cond.static yX7_isAmount, Cond.code yX7_isAmount cX7_isAmount 1 (some .boolean), Cond.methodLink RL 65 yX8_amount, Cond.instanceMethod yX8_amount, Cond.selects RX8 yX8_amount yX8_amount, Cond.code yX8_amount cX8_amount 4 (some .int)]
def wsL_law_r25 : List Cond := [Cond.constantLong RX8 208 (20), Cond.methodLink RL 66 yX7_jack, Cond.instanceMethod yX7_jack, Cond.selects RX7 yX7_jack yX7_jack, Cond.code yX7_jack cX7_jack 3 (some .int), Cond.fieldLink RX7 197 "NightLevel$Stance" "height" "[I", Cond.methodLink RX7 194 yX5_shift, Cond.methodLink RL 69 yX8_jack, Cond.instanceMethod yX8_jack, Cond.selects RX8 yX8_jack yX8_jack, Cond.code yX8_jack cX8_jack 3 (some .int), Cond.methodLink RL 70 yX7_foot, Cond.instanceMethod yX7_foot, Cond.selects RX7 yX7_foot yX7_foot, Cond.code yX7_foot cX7_foot 3 (some .int), Cond.methodLink RL 73 yX8_foot, Cond.instanceMethod yX8_foot, Cond.selects RX8 yX8_foot yX8_foot, Cond.code yX8_foot cX8_foot 3 (some .int), Cond.methodLink RL 74 yX7_deed, Cond.instanceMethod yX7_deed, Cond.selects RX7 yX7_deed yX7_deed, Cond.code yX7_deed cX7_deed 3 (some .int), Cond.fieldLink RX7 200 "NightLevel$Site" "footOf" "[I"]
def wsL_law_r26 : List Cond := [Cond.methodLink RL 77 yX8_deed, Cond.instanceMethod yX8_deed, Cond.selects RX8 yX8_deed yX8_deed, Cond.code yX8_deed cX8_deed 3 (some .int), Cond.methodLink RL 78 yX7_lean, Cond.instanceMethod yX7_lean, Cond.selects RX7 yX7_lean yX7_lean, Cond.code yX7_lean cX7_lean 2 (some .int), Cond.methodLink RX7 203 yX5_side, Cond.methodLink RX7 206 yX5_along, Cond.methodLink RX7 209 yX5_middle, Cond.methodLink RX7 212 yX4_isLevel, Cond.instanceMethod yX4_isLevel, Cond.selects RX4 yX4_isLevel yX4_isLevel, Cond.code yX4_isLevel cX4_isLevel 2 (some .boolean), Cond.methodLink RX4 71 Lib.Math.abs.name, Cond.methodLink RX4 67 yX5_side, Cond.methodLink RX4 76 yX5_along, Cond.methodLink RL 81 yX8_lean, Cond.instanceMethod yX8_lean, Cond.selects RX8 yX8_lean yX8_lean, Cond.code yX8_lean cX8_lean 2 (some .int), Cond.methodLink RX8 210 yX8_isLevel, Cond.static yX8_isLevel]
def wsL_law_r27 : List Cond := [Cond.code yX8_isLevel cX8_isLevel 1 (some .boolean), Cond.methodLink RL 82 yX7_ahead, Cond.instanceMethod yX7_ahead, Cond.selects RX7 yX7_ahead yX7_ahead, Cond.code yX7_ahead cX7_ahead 3 (some .int), Cond.methodLink RX7 216 yX2_behind, Cond.instanceMethod yX2_behind, Cond.selects RX2 yX2_behind yX2_behind, Cond.code yX2_behind cX2_behind 4 (some (.object "NightLevel$Stance")), Cond.methodLink RX2 32 yX4_rainsWithin, Cond.methodLink RX2 38 yX2_sunkBy, Cond.instanceMethod yX2_sunkBy, Cond.selects RX2 yX2_sunkBy yX2_sunkBy, Cond.code yX2_sunkBy cX2_sunkBy 3 (some (.object "NightLevel$Stance")), Cond.methodLink RX2 42 yX5_copyFrom, Cond.methodLink RX2 46 yX5_sink, Cond.methodLink RL 85 yX8_ahead, Cond.instanceMethod yX8_ahead, Cond.selects RX8 yX8_ahead yX8_ahead, Cond.code yX8_ahead cX8_ahead 3 (some .int), Cond.constantLong RX8 214 (60), Cond.methodLink RX8 216 yX8_layThen, Cond.instanceMethod yX8_layThen, Cond.selects RX8 yX8_layThen yX8_layThen]
def wsL_law_r28 : List Cond := [Cond.code yX8_layThen cX8_layThen 2 none, Cond.methodLink RX8 219 yX8_hoursOf, Cond.static yX8_hoursOf, Cond.code yX8_hoursOf cX8_hoursOf 3 none, Cond.methodLink RL 86 yX7_leanAhead, Cond.instanceMethod yX7_leanAhead, Cond.selects RX7 yX7_leanAhead yX7_leanAhead, Cond.code yX7_leanAhead cX7_leanAhead 3 (some .int), Cond.methodLink RX7 220 yX5_tilt, Cond.instanceMethod yX5_tilt, Cond.selects RX5 yX5_tilt yX5_tilt, Cond.code yX5_tilt cX5_tilt 2 (some .int), Cond.methodLink RL 89 yX8_leanAhead, Cond.instanceMethod yX8_leanAhead, Cond.selects RX8 yX8_leanAhead yX8_leanAhead, Cond.code yX8_leanAhead cX8_leanAhead 3 (some .int), Cond.methodLink RL 90 yX7_lasts, Cond.instanceMethod yX7_lasts, Cond.selects RX7 yX7_lasts yX7_lasts, Cond.code yX7_lasts cX7_lasts 1 (some .int), Cond.methodLink RX7 223 yX2_untilLevelIs, Cond.instanceMethod yX2_untilLevelIs, Cond.selects RX2 yX2_untilLevelIs yX2_untilLevelIs, Cond.code yX2_untilLevelIs cX2_untilLevelIs 4 (some .int)]
def wsL_law_r29 : List Cond := [Cond.fieldLink RX2 50 "NightLevel$Site" "stance" "LNightLevel$Stance;", Cond.methodLink RX2 53 yX2_behind, Cond.methodLink RX2 57 yX4_isLevel, Cond.methodLink RL 93 yX8_lasts, Cond.instanceMethod yX8_lasts, Cond.selects RX8 yX8_lasts yX8_lasts, Cond.code yX8_lasts cX8_lasts 1 (some .int), Cond.methodLink RX8 222 yX8_firstBy, Cond.instanceMethod yX8_firstBy, Cond.selects RX8 yX8_firstBy yX8_firstBy, Cond.code yX8_firstBy cX8_firstBy 3 (some .int), Cond.methodLink RL 94 yX7_first, Cond.instanceMethod yX7_first, Cond.selects RX7 yX7_first yX7_first, Cond.code yX7_first cX7_first 2 (some .int), Cond.constant RX7 227 (-1000000), Cond.methodLink RL 97 yX8_first, Cond.instanceMethod yX8_first, Cond.selects RX8 yX8_first yX8_first, Cond.code yX8_first cX8_first 2 (some .int), Cond.methodLink RL 98 yX7_attempt, Cond.instanceMethod yX7_attempt, Cond.selects RX7 yX7_attempt yX7_attempt, Cond.code yX7_attempt cX7_attempt 2 (some .int)]
def wsL_law_r30 : List Cond := [Cond.methodLink RX7 228 yX2_awryIf, Cond.instanceMethod yX2_awryIf, Cond.selects RX2 yX2_awryIf yX2_awryIf, Cond.code yX2_awryIf cX2_awryIf 3 (some .int), Cond.methodLink RX2 65 yX4_enact, Cond.methodLink RX2 61 yX5_awry, Cond.methodLink RL 101 yX8_attempt, Cond.instanceMethod yX8_attempt, Cond.selects RX8 yX8_attempt yX8_attempt, Cond.code yX8_attempt cX8_attempt 2 (some .int), Cond.methodLink RX8 226 yX8_awryBy, Cond.instanceMethod yX8_awryBy, Cond.selects RX8 yX8_awryBy yX8_awryBy, Cond.code yX8_awryBy cX8_awryBy 2 (some .int), Cond.methodLink RL 102 yX7_best, Cond.instanceMethod yX7_best, Cond.selects RX7 yX7_best yX7_best, Cond.code yX7_best cX7_best 3 (some .int), Cond.methodLink RX7 232 yX2_bestDeed, Cond.instanceMethod yX2_bestDeed, Cond.selects RX2 yX2_bestDeed yX2_bestDeed, Cond.code yX2_bestDeed cX2_bestDeed 6 (some .int), Cond.constant RX2 69 (-1000000), Cond.constant RX2 72 (2147483647)]
def wsL_law_r31 : List Cond := [Cond.fieldLink RX2 73 "NightLevel$Site" "deedCount" "I", Cond.methodLink RX2 77 yX4_isDone, Cond.methodLink RX2 81 yX2_awryIf, Cond.methodLink RL 105 yX8_best, Cond.instanceMethod yX8_best, Cond.selects RX8 yX8_best yX8_best, Cond.code yX8_best cX8_best 7 (some .int), Cond.methodLink RL 106 yX7_plan, Cond.instanceMethod yX7_plan, Cond.selects RX7 yX7_plan yX7_plan, Cond.code yX7_plan cX7_plan 4 (some .int), Cond.fieldLink RX7 239 "NightLevel$Foresight" "chosen" "[I", Cond.methodLink RX7 236 yX2_planLength, Cond.instanceMethod yX2_planLength, Cond.selects RX2 yX2_planLength yX2_planLength, Cond.code yX2_planLength cX2_planLength 6 (some .int), Cond.fieldLink RX2 88 "NightLevel$Site" "done" "I", Cond.methodLink RX2 85 yX4_leftCount, Cond.instanceMethod yX4_leftCount, Cond.selects RX4 yX4_leftCount yX4_leftCount, Cond.code yX4_leftCount cX4_leftCount 1 (some .int), Cond.methodLink RX4 61 yJ6_bitCount_0f7a4, Cond.static yJ6_bitCount_0f7a4, Cond.initialized RJ6]
def wsL_law_r32 : List Cond := [Cond.code yJ6_bitCount_0f7a4 cJ6_bitCount_0f7a4 1 (some .int), Cond.constant RJ6 265 (1431655765), Cond.constant RJ6 266 (858993459), Cond.constant RJ6 267 (252645135), Cond.methodLink RX2 91 yX2_findRow, Cond.instanceMethod yX2_findRow, Cond.selects RX2 yX2_findRow yX2_findRow, Cond.code yX2_findRow cX2_findRow 7 (some .boolean), Cond.methodLink RX2 95 yX2_isOutOfTurn, Cond.instanceMethod yX2_isOutOfTurn, Cond.selects RX2 yX2_isOutOfTurn yX2_isOutOfTurn, Cond.code yX2_isOutOfTurn cX2_isOutOfTurn 4 (some .boolean), Cond.fieldLink RX2 99 "NightLevel$Site" "kindOf" "[I", Cond.methodLink RL 109 yX8_plan, Cond.instanceMethod yX8_plan, Cond.selects RX8 yX8_plan yX8_plan, Cond.code yX8_plan cX8_plan 4 (some .int), Cond.methodLink RX8 236 yX8_planned, Cond.instanceMethod yX8_planned, Cond.selects RX8 yX8_planned yX8_planned, Cond.code yX8_planned cX8_planned 6 (some .boolean), Cond.methodLink RX8 229 yX8_layStep, Cond.instanceMethod yX8_layStep, Cond.selects RX8 yX8_layStep yX8_layStep]
def wsL_law_r33 : List Cond := [Cond.code yX8_layStep cX8_layStep 3 none, Cond.methodLink RX8 232 yX8_isStepDone, Cond.instanceMethod yX8_isStepDone, Cond.selects RX8 yX8_isStepDone yX8_isStepDone, Cond.code yX8_isStepDone cX8_isStepDone 3 (some .boolean), Cond.methodLink RL 110 yX7_boards, Cond.instanceMethod yX7_boards, Cond.selects RX7 yX7_boards yX7_boards, Cond.code yX7_boards cX7_boards 4 (some .int), Cond.fieldLink RX7 245 "NightLevel$Foresight" "shares" "[I", Cond.methodLink RX7 242 yX2_fewestBoards, Cond.instanceMethod yX2_fewestBoards, Cond.selects RX2 yX2_fewestBoards yX2_fewestBoards, Cond.code yX2_fewestBoards cX2_fewestBoards 10 (some .int), Cond.fieldLink RX2 102 "NightLevel$Stance" "soft" "[I", Cond.methodLink RX2 105 yX5_soften, Cond.methodLink RX2 109 yX2_share, Cond.instanceMethod yX2_share, Cond.selects RX2 yX2_share yX2_share, Cond.code yX2_share cX2_share 4 (some .int), Cond.methodLink RL 113 yX8_boards, Cond.instanceMethod yX8_boards, Cond.selects RX8 yX8_boards yX8_boards, Cond.code yX8_boards cX8_boards 9 (some .int)]
def wsL_law_r34 : List Cond := [Cond.constantLong RX8 239 (-1), Cond.methodLink RL 114 yX7_lift, Cond.instanceMethod yX7_lift, Cond.selects RX7 yX7_lift yX7_lift, Cond.code yX7_lift cX7_lift 3 (some .int), Cond.methodLink RX7 248 yX2_leastLifting, Cond.instanceMethod yX2_leastLifting, Cond.selects RX2 yX2_leastLifting yX2_leastLifting, Cond.code yX2_leastLifting cX2_leastLifting 6 (some .int), Cond.methodLink RX2 119 Lib.Math.abs.name, Cond.fieldLink RX2 124 "NightLevel$Site" "egg" "I", Cond.methodLink RX2 113 yX5_shift, Cond.methodLink RX2 116 yX5_side, Cond.methodLink RX2 127 yX2_leastNoseLift, Cond.instanceMethod yX2_leastNoseLift, Cond.selects RX2 yX2_leastNoseLift yX2_leastNoseLift, Cond.code yX2_leastNoseLift cX2_leastNoseLift 3 (some .int), Cond.methodLink RL 117 yX8_lift, Cond.instanceMethod yX8_lift, Cond.selects RX8 yX8_lift yX8_lift, Cond.code yX8_lift cX8_lift 7 (some .int), Cond.methodLink RL 118 yX7_worst, Cond.instanceMethod yX7_worst, Cond.selects RX7 yX7_worst yX7_worst]
def wsL_law_r35 : List Cond := [Cond.code yX7_worst cX7_worst 4 (some .int), Cond.methodLink RX7 251 yX2_worstHour, Cond.instanceMethod yX2_worstHour, Cond.selects RX2 yX2_worstHour yX2_worstHour, Cond.code yX2_worstHour cX2_worstHour 7 (some .int), Cond.methodLink RL 121 yX8_worst, Cond.instanceMethod yX8_worst, Cond.selects RX8 yX8_worst yX8_worst, Cond.code yX8_worst cX8_worst 7 (some .int), Cond.methodLink RL 122 yX7_who, Cond.instanceMethod yX7_who, Cond.selects RX7 yX7_who yX7_who, Cond.code yX7_who cX7_who 6 (some .int), Cond.methodLink RX7 254 yX7_allThatFits, Cond.instanceMethod yX7_allThatFits, Cond.selects RX7 yX7_allThatFits yX7_allThatFits, Cond.code yX7_allThatFits cX7_allThatFits 11 (some .int), Cond.fieldLink RX7 314 "NightLevel$Shelf" "items" "[[I", Cond.methodLink RX7 310 yX2_tryWith, Cond.instanceMethod yX2_tryWith, Cond.selects RX2 yX2_tryWith yX2_tryWith, Cond.code yX2_tryWith cX2_tryWith 5 none, Cond.fieldLink RX2 131 "NightLevel$Site" "footOf" "[I", Cond.fieldLink RX2 134 "NightLevel$Site" "amountOf" "[I"]
def wsL_law_r36 : List Cond := [Cond.methodLink RX2 137 yX5_enact, Cond.methodLink RX7 318 yX2_isSo, Cond.instanceMethod yX2_isSo, Cond.selects RX2 yX2_isSo yX2_isSo, Cond.code yX2_isSo cX2_isSo 7 (some .boolean), Cond.methodLink RX2 140 yX5_tilt, Cond.methodLink RL 125 yX8_who, Cond.instanceMethod yX8_who, Cond.selects RX8 yX8_who yX8_who, Cond.code yX8_who cX8_who 6 (some .int), Cond.methodLink RX8 247 yX8_fits, Cond.instanceMethod yX8_fits, Cond.selects RX8 yX8_fits yX8_fits, Cond.code yX8_fits cX8_fits 11 (some .int), Cond.constantLong RX8 241 (12), Cond.methodLink RX8 243 yX8_leansSo, Cond.instanceMethod yX8_leansSo, Cond.selects RX8 yX8_leansSo yX8_leansSo, Cond.code yX8_leansSo cX8_leansSo 6 (some .boolean), Cond.methodLink RL 126 yX7_feet, Cond.instanceMethod yX7_feet, Cond.selects RX7 yX7_feet yX7_feet, Cond.code yX7_feet cX7_feet 6 (some .int), Cond.methodLink RL 129 yX8_feet]
def wsL_law_r37 : List Cond := [Cond.instanceMethod yX8_feet, Cond.selects RX8 yX8_feet yX8_feet, Cond.code yX8_feet cX8_feet 6 (some .int), Cond.methodLink RL 130 yX7_amounts, Cond.instanceMethod yX7_amounts, Cond.selects RX7 yX7_amounts yX7_amounts, Cond.code yX7_amounts cX7_amounts 6 (some .int), Cond.methodLink RL 133 yX8_amounts, Cond.instanceMethod yX8_amounts, Cond.selects RX8 yX8_amounts yX8_amounts, Cond.code yX8_amounts cX8_amounts 6 (some .int), Cond.methodLink RL 134 yX7_wrong, Cond.instanceMethod yX7_wrong, Cond.selects RX7 yX7_wrong yX7_wrong, Cond.code yX7_wrong cX7_wrong 9 (some .long), Cond.constantLong RX7 258 (-1000002), Cond.constantLong RX7 260 (-1000001), Cond.methodLink RX7 262 yX2_casesLevel, Cond.instanceMethod yX2_casesLevel, Cond.selects RX2 yX2_casesLevel yX2_casesLevel, Cond.code yX2_casesLevel cX2_casesLevel 10 (some .long), Cond.methodLink RX7 266 yX2_casesInAll, Cond.instanceMethod yX2_casesInAll, Cond.selects RX2 yX2_casesInAll yX2_casesInAll]
def wsL_law_r38 : List Cond := [Cond.code yX2_casesInAll cX2_casesInAll 5 (some .long), Cond.constantLong RX2 143 (10), Cond.methodLink RX7 270 yX7_greatestDivisor, Cond.static yX7_greatestDivisor, Cond.code yX7_greatestDivisor cX7_greatestDivisor 7 (some .long), Cond.methodLink RL 138 yX8_wrong, Cond.instanceMethod yX8_wrong, Cond.selects RX8 yX8_wrong yX8_wrong, Cond.code yX8_wrong cX8_wrong 14 (some .long), Cond.constantLong RX8 251 (-1000002), Cond.constantLong RX8 253 (10), Cond.constantLong RX8 255 (-1000001), Cond.methodLink RL 139 yX7_drawn, Cond.instanceMethod yX7_drawn, Cond.selects RX7 yX7_drawn yX7_drawn, Cond.code yX7_drawn cX7_drawn 5 (some .int), Cond.constant RX7 274 (999999), Cond.fieldLink RX7 279 "NightLevel$Foresight" "trial" "LNightLevel$Stance;", Cond.methodLink RX7 275 yX2_drawNight, Cond.instanceMethod yX2_drawNight, Cond.selects RX2 yX2_drawNight yX2_drawNight, Cond.code yX2_drawNight cX2_drawNight 10 (some .int), Cond.constantLong RX2 145 (16807), Cond.constantLong RX2 147 (2147483647)]
def wsL_law_r39 : List Cond := [Cond.methodLink RL 142 yX8_drawn, Cond.instanceMethod yX8_drawn, Cond.selects RX8 yX8_drawn yX8_drawn, Cond.code yX8_drawn cX8_drawn 9 (some .int), Cond.constantLong RX8 257 (999999), Cond.constantLong RX8 259 (16807), Cond.constantLong RX8 261 (2147483647), Cond.methodLink RL 143 yX7_image, Cond.instanceMethod yX7_image, Cond.selects RX7 yX7_image yX7_image, Cond.code yX7_image cX7_image 2 (some .int), Cond.methodLink RL 146 yX8_image, Cond.instanceMethod yX8_image, Cond.selects RX8 yX8_image yX8_image, Cond.code yX8_image cX8_image 3 (some .int), Cond.methodLink RL 147 yX7_restore, Cond.instanceMethod yX7_restore, Cond.selects RX7 yX7_restore yX7_restore, Cond.code yX7_restore cX7_restore 2 (some .int), Cond.methodLink RL 150 yX8_restore, Cond.instanceMethod yX8_restore, Cond.selects RX8 yX8_restore yX8_restore, Cond.code yX8_restore cX8_restore 3 (some .int), Cond.methodLink RL 151 yX7_kind]
def wsL_law_r40 : List Cond := [Cond.instanceMethod yX7_kind, Cond.selects RX7 yX7_kind yX7_kind, Cond.code yX7_kind cX7_kind 2 (some .int), Cond.fieldLink RX7 282 "NightLevel$Site" "kindOf" "[I", Cond.methodLink RL 154 yX8_kind, Cond.instanceMethod yX8_kind, Cond.selects RX8 yX8_kind yX8_kind, Cond.code yX8_kind cX8_kind 2 (some .int), Cond.methodLink RL 155 yX7_as, Cond.instanceMethod yX7_as, Cond.selects RX7 yX7_as yX7_as, Cond.code yX7_as cX7_as 3 (some .int), Cond.methodLink RX7 285 yX1_isOne, Cond.instanceMethod yX1_isOne, Cond.selects RX1 yX1_isOne yX1_isOne, Cond.code yX1_isOne cX1_isOne 3 (some .boolean), Cond.fieldLink RX1 13 "NightLevel$Asker" "NEAREST" "[I", Cond.methodLink RL 158 yX8_as, Cond.instanceMethod yX8_as, Cond.selects RX8 yX8_as yX8_as, Cond.code yX8_as cX8_as 3 (some .int), Cond.constantLong RX8 263 (5), Cond.methodLink RX8 265 yX8_isOf, Cond.static yX8_isOf]
def wsL_law_r41 : List Cond := [Cond.code yX8_isOf cX8_isOf 2 (some .boolean), Cond.methodLink RL 159 yX7_ask, Cond.instanceMethod yX7_ask, Cond.selects RX7 yX7_ask yX7_ask, Cond.code yX7_ask cX7_ask 3 (some .int), Cond.methodLink RX7 288 yX1_answer, Cond.instanceMethod yX1_answer, Cond.selects RX1 yX1_answer yX1_answer, Cond.code yX1_answer cX1_answer 4 (some .int), Cond.fieldLink RX1 16 "NightLevel$Asker" "left" "I", Cond.fieldLink RX1 20 "NightLevel$Site" "kindOf" "[I", Cond.methodLink RX1 25 yX1_bodyFor, Cond.static yX1_bodyFor, Cond.code yX1_bodyFor cX1_bodyFor 3 (some .int), Cond.fieldLink RX1 33 "NightLevel$Asker" "SIZE_BODIES" "[I", Cond.fieldLink RX1 36 "NightLevel$Asker" "MARK_BODIES" "[I", Cond.methodLink RX1 29 yX1_begin, Cond.instanceMethod yX1_begin, Cond.selects RX1 yX1_begin yX1_begin, Cond.code yX1_begin cX1_begin 6 (some .int), Cond.fieldLink RX1 39 "NightLevel$Site" "amountOf" "[I", Cond.fieldLink RX1 45 "NightLevel$Site" "stance" "LNightLevel$Stance;", Cond.fieldLink RX1 49 "NightLevel$Stance" "height" "[I", Cond.fieldLink RX1 54 "NightLevel$Site" "footOf" "[I"]
def wsL_law_r42 : List Cond := [Cond.methodLink RX1 42 yX1_anew, Cond.instanceMethod yX1_anew, Cond.selects RX1 yX1_anew yX1_anew, Cond.code yX1_anew cX1_anew 5 (some .int), Cond.methodLink RL 162 yX8_ask, Cond.instanceMethod yX8_ask, Cond.selects RX8 yX8_ask yX8_ask, Cond.code yX8_ask cX8_ask 3 (some .int), Cond.fieldLink RX8 268 "NightLevelModel" "traced" "I", Cond.methodLink RX8 283 yX8_sizeOf, Cond.instanceMethod yX8_sizeOf, Cond.selects RX8 yX8_sizeOf yX8_sizeOf, Cond.code yX8_sizeOf cX8_sizeOf 4 (some .int), Cond.methodLink RX8 277 yX8_woundSize, Cond.instanceMethod yX8_woundSize, Cond.selects RX8 yX8_woundSize yX8_woundSize, Cond.code yX8_woundSize cX8_woundSize 4 (some .int), Cond.methodLink RX8 271 yX8_began, Cond.instanceMethod yX8_began, Cond.selects RX8 yX8_began yX8_began, Cond.code yX8_began cX8_began 2 none, Cond.methodLink RX8 274 yX8_plainSize, Cond.instanceMethod yX8_plainSize, Cond.selects RX8 yX8_plainSize yX8_plainSize]
def wsL_law_r43 : List Cond := [Cond.code yX8_plainSize cX8_plainSize 2 (some .int), Cond.methodLink RX8 280 yX8_markOf, Cond.instanceMethod yX8_markOf, Cond.selects RX8 yX8_markOf yX8_markOf, Cond.code yX8_markOf cX8_markOf 4 (some .int), Cond.methodLink RL 163 yX7_trace, Cond.instanceMethod yX7_trace, Cond.selects RX7 yX7_trace yX7_trace, Cond.code yX7_trace cX7_trace 2 (some .int), Cond.fieldLink RX7 291 "NightLevel$Asker" "left" "I", Cond.fieldLink RX7 294 "NightLevel$Asker" "bodies" "[I", Cond.methodLink RL 166 yX8_trace, Cond.instanceMethod yX8_trace, Cond.selects RX8 yX8_trace yX8_trace, Cond.code yX8_trace cX8_trace 2 (some .int), Cond.methodLink RL 167 yX7_count, Cond.instanceMethod yX7_count, Cond.selects RX7 yX7_count yX7_count, Cond.code yX7_count cX7_count 2 (some .int), Cond.fieldLink RX7 303 "NightLevel$Tape" "length" "I", Cond.methodLink RX7 297 yX3_howMany, Cond.instanceMethod yX3_howMany, Cond.selects RX3 yX3_howMany yX3_howMany, Cond.code yX3_howMany cX3_howMany 3 (some .int)]
def wsL_law_r44 : List Cond := [Cond.methodLink RX3 21 yX3_isMissing, Cond.methodLink RX7 300 yX5_allHeights, Cond.instanceMethod yX5_allHeights, Cond.selects RX5 yX5_allHeights yX5_allHeights, Cond.code yX5_allHeights cX5_allHeights 1 (some .int), Cond.methodLink RL 170 yX8_count, Cond.instanceMethod yX8_count, Cond.selects RX8 yX8_count yX8_count, Cond.code yX8_count cX8_count 4 (some .int), Cond.methodLink RL 171 yX7_status, Cond.instanceMethod yX7_status, Cond.selects RX7 yX7_status yX7_status, Cond.code yX7_status cX7_status 1 (some .int), Cond.methodLink RL 174 yX8_status, Cond.instanceMethod yX8_status, Cond.selects RX8 yX8_status yX8_status, Cond.code yX8_status cX8_status 1 (some .int)]
def wsL_law : List Cond := (wsL_law_r1 ++ (wsL_law_r2 ++ (wsL_law_r3 ++ (wsL_law_r4 ++ (wsL_law_r5 ++ (wsL_law_r6 ++ (wsL_law_r7 ++ (wsL_law_r8 ++ (wsL_law_r9 ++ (wsL_law_r10 ++ (wsL_law_r11 ++ (wsL_law_r12 ++ (wsL_law_r13 ++ (wsL_law_r14 ++ (wsL_law_r15 ++ (wsL_law_r16 ++ (wsL_law_r17 ++ (wsL_law_r18 ++ (wsL_law_r19 ++ (wsL_law_r20 ++ (wsL_law_r21 ++ (wsL_law_r22 ++ (wsL_law_r23 ++ (wsL_law_r24 ++ (wsL_law_r25 ++ (wsL_law_r26 ++ (wsL_law_r27 ++ (wsL_law_r28 ++ (wsL_law_r29 ++ (wsL_law_r30 ++ (wsL_law_r31 ++ (wsL_law_r32 ++ (wsL_law_r33 ++ (wsL_law_r34 ++ (wsL_law_r35 ++ (wsL_law_r36 ++ (wsL_law_r37 ++ (wsL_law_r38 ++ (wsL_law_r39 ++ (wsL_law_r40 ++ (wsL_law_r41 ++ (wsL_law_r42 ++ (wsL_law_r43 ++ wsL_law_r44))))))))))))))))))))))))))))))))))))))))))) ++ wsX70 ++ wsX80 ++ wsX30 ++ wsX60 ++ wsX40 ++ wsX00 ++ wsX20 ++ wsX10 ++ wsX50 ++ ([] : List Cond)
set_option maxRecDepth 20000 in
theorem wsL_law_in : ∀ w ∈ wsL_law, w ∈ lw_tbl := fun w h => (goodIn_p wsL_law [65, 68, 73, 93, 115, 121, 202, 219, 247, 824, 292, 296, 299, 304, 309, 313, 906, 909, 913, 919, 317, 321, 325, 329, 924, 333, 337, 341, 928, 348, 352, 932, 356, 360, 365, 936, 369, 373, 377, 381, 385, 389, 393, 397, 401, 405, 408, 412, 416, 421, 426, 431, 946, 950, 954, 963, 967, 971, 975, 979, 983, 987, 990, 994, 998, 435, 942, 439, 444, 448, 1075, 452, 456, 463, 460, 467, 471, 475, 479, 483, 487, 494, 491, 498, 502, 1003, 1007, 1013, 1016, 1019, 1022, 1025, 1028, 1031, 1034, 506, 510, 514, 518, 522, 526, 530, 534, 1038, 1042, 1046, 1049, 1052, 1055, 538, 541, 1059, 1062, 546, 549, 1066, 553, 1071, 558, 1079, 562, 1083, 566, 573, 1087, 1090, 580, 584, 589, 1094, 1099, 1102, 595, 599, 1106, 603, 607, 1110, 1114, 613, 1118, 618, 622, 1122, 1126, 628, 632, 1130, 640, 644, 648, 651, 658, 662, 1134, 1138, 1142, 1146, 666, 670, 675, 1150, 679, 683, 690, 1155, 694, 698, 1159, 702, 706, 710, 715, 1163, 1167, 1172, 720, 1176, 724, 1180, 728, 734, 738, 742, 1184, 746, 751, 1191, 757, 1198, 761, 1202, 765, 1206, 769, 773, 1210, 1214, 779, 783, 786, 794, 798, 1218, 1222, 1226, 1230, 1234, 1238, 802, 1242, 806, 810, 815, 1246, 819, 1250] (by decide +kernel) (by decide +kernel) w h).1
theorem inlX0 : ∀ w ∈ wsX00, w ∈ wsL_law := fun _ h => List.mem_append_left _ (List.mem_append_left _ (List.mem_append_left _ (List.mem_append_left _ (List.mem_append_right _ h))))
theorem inX0 : ∀ w ∈ wsX00, w ∈ lw_tbl := fun w h => wsL_law_in w (inlX0 w h)
theorem inlX1 : ∀ w ∈ wsX10, w ∈ wsL_law := fun _ h => List.mem_append_left _ (List.mem_append_left _ (List.mem_append_right _ h))
theorem inX1 : ∀ w ∈ wsX10, w ∈ lw_tbl := fun w h => wsL_law_in w (inlX1 w h)
theorem inlX2 : ∀ w ∈ wsX20, w ∈ wsL_law := fun _ h => List.mem_append_left _ (List.mem_append_left _ (List.mem_append_left _ (List.mem_append_right _ h)))
theorem inX2 : ∀ w ∈ wsX20, w ∈ lw_tbl := fun w h => wsL_law_in w (inlX2 w h)
theorem inlX3 : ∀ w ∈ wsX30, w ∈ wsL_law := fun _ h => List.mem_append_left _ (List.mem_append_left _ (List.mem_append_left _ (List.mem_append_left _ (List.mem_append_left _ (List.mem_append_left _ (List.mem_append_left _ (List.mem_append_right _ h)))))))
theorem inX3 : ∀ w ∈ wsX30, w ∈ lw_tbl := fun w h => wsL_law_in w (inlX3 w h)
theorem inlX4 : ∀ w ∈ wsX40, w ∈ wsL_law := fun _ h => List.mem_append_left _ (List.mem_append_left _ (List.mem_append_left _ (List.mem_append_left _ (List.mem_append_left _ (List.mem_append_right _ h)))))
theorem inX4 : ∀ w ∈ wsX40, w ∈ lw_tbl := fun w h => wsL_law_in w (inlX4 w h)
theorem inlX5 : ∀ w ∈ wsX50, w ∈ wsL_law := fun _ h => List.mem_append_left _ (List.mem_append_right _ h)
theorem inX5 : ∀ w ∈ wsX50, w ∈ lw_tbl := fun w h => wsL_law_in w (inlX5 w h)
theorem inlX6 : ∀ w ∈ wsX60, w ∈ wsL_law := fun _ h => List.mem_append_left _ (List.mem_append_left _ (List.mem_append_left _ (List.mem_append_left _ (List.mem_append_left _ (List.mem_append_left _ (List.mem_append_right _ h))))))
theorem inX6 : ∀ w ∈ wsX60, w ∈ lw_tbl := fun w h => wsL_law_in w (inlX6 w h)
theorem inlX7 : ∀ w ∈ wsX70, w ∈ wsL_law := fun _ h => List.mem_append_left _ (List.mem_append_left _ (List.mem_append_left _ (List.mem_append_left _ (List.mem_append_left _ (List.mem_append_left _ (List.mem_append_left _ (List.mem_append_left _ (List.mem_append_left _ (List.mem_append_right _ h)))))))))
theorem inX7 : ∀ w ∈ wsX70, w ∈ lw_tbl := fun w h => wsL_law_in w (inlX7 w h)
theorem inlX8 : ∀ w ∈ wsX80, w ∈ wsL_law := fun _ h => List.mem_append_left _ (List.mem_append_left _ (List.mem_append_left _ (List.mem_append_left _ (List.mem_append_left _ (List.mem_append_left _ (List.mem_append_left _ (List.mem_append_left _ (List.mem_append_right _ h))))))))
theorem inX8 : ∀ w ∈ wsX80, w ∈ lw_tbl := fun w h => wsL_law_in w (inlX8 w h)
theorem inJ6 : ∀ w ∈ wsJ60, w ∈ lw_tbl := by decide +kernel
theorem inJ9 : ∀ w ∈ wsJ90, w ∈ lw_tbl := by decide +kernel
theorem inJ10 : ∀ w ∈ wsJ100, w ∈ lw_tbl := by decide +kernel
abbrev vwCl : List vw_C := [(RX0, TX0, 3), (RX1, TX1, 2), (RX2, TX2, 5), (RX3, TX3, 3), (RX4, TX4, 11), (RX5, TX5, 2), (RX6, TX6, 4), (RX7, TX7, 10), (RX8, TX8, 25)]
def mX0_init : MethodName × ByteArray × Nat × Option FieldType := (yX0_init, cX0_init, 1, none)
def mX0_forget : MethodName × ByteArray × Nat × Option FieldType := (yX0_forget, cX0_forget, 1, none)
def mX4_save : MethodName × ByteArray × Nat × Option FieldType := (yX4_save, cX4_save, 3, none)
def mX0_keep : MethodName × ByteArray × Nat × Option FieldType := (yX0_keep, cX0_keep, 2, none)
def mX4_load : MethodName × ByteArray × Nat × Option FieldType := (yX4_load, cX4_load, 3, none)
def mX0_takeBack : MethodName × ByteArray × Nat × Option FieldType := (yX0_takeBack, cX0_takeBack, 2, none)
def mX1_init : MethodName × ByteArray × Nat × Option FieldType := (yX1_init, cX1_init, 1, none)
def mX1_isOne : MethodName × ByteArray × Nat × Option FieldType := (yX1_isOne, cX1_isOne, 3, (some .boolean))
def mX1_bodyFor : MethodName × ByteArray × Nat × Option FieldType := (yX1_bodyFor, cX1_bodyFor, 3, (some .int))
def mX1_anew : MethodName × ByteArray × Nat × Option FieldType := (yX1_anew, cX1_anew, 5, (some .int))
def mX1_begin : MethodName × ByteArray × Nat × Option FieldType := (yX1_begin, cX1_begin, 6, (some .int))
def mX1_answer : MethodName × ByteArray × Nat × Option FieldType := (yX1_answer, cX1_answer, 4, (some .int))
def mX5_init : MethodName × ByteArray × Nat × Option FieldType := (yX5_init, cX5_init, 1, none)
def mX2_init : MethodName × ByteArray × Nat × Option FieldType := (yX2_init, cX2_init, 1, none)
def mX4_rainsWithin : MethodName × ByteArray × Nat × Option FieldType := (yX4_rainsWithin, cX4_rainsWithin, 2, (some .int))
def mX5_copyFrom : MethodName × ByteArray × Nat × Option FieldType := (yX5_copyFrom, cX5_copyFrom, 2, none)
def mX5_shift : MethodName × ByteArray × Nat × Option FieldType := (yX5_shift, cX5_shift, 3, none)
def mX5_sink : MethodName × ByteArray × Nat × Option FieldType := (yX5_sink, cX5_sink, 3, none)
def mX2_sunkBy : MethodName × ByteArray × Nat × Option FieldType := (yX2_sunkBy, cX2_sunkBy, 3, (some (.object "NightLevel$Stance")))
def mX2_behind : MethodName × ByteArray × Nat × Option FieldType := (yX2_behind, cX2_behind, 4, (some (.object "NightLevel$Stance")))
def mX5_side : MethodName × ByteArray × Nat × Option FieldType := (yX5_side, cX5_side, 1, (some .int))
def mX5_middle : MethodName × ByteArray × Nat × Option FieldType := (yX5_middle, cX5_middle, 1, (some .int))
def mX5_along : MethodName × ByteArray × Nat × Option FieldType := (yX5_along, cX5_along, 1, (some .int))
def mX4_isLevel : MethodName × ByteArray × Nat × Option FieldType := (yX4_isLevel, cX4_isLevel, 2, (some .boolean))
def mX2_untilLevelIs : MethodName × ByteArray × Nat × Option FieldType := (yX2_untilLevelIs, cX2_untilLevelIs, 4, (some .int))
def mX5_awry : MethodName × ByteArray × Nat × Option FieldType := (yX5_awry, cX5_awry, 1, (some .int))
def mX2_worstHour : MethodName × ByteArray × Nat × Option FieldType := (yX2_worstHour, cX2_worstHour, 7, (some .int))
def mX5_soften : MethodName × ByteArray × Nat × Option FieldType := (yX5_soften, cX5_soften, 3, none)
def mX5_wind : MethodName × ByteArray × Nat × Option FieldType := (yX5_wind, cX5_wind, 2, none)
def mX5_changeWheels : MethodName × ByteArray × Nat × Option FieldType := (yX5_changeWheels, cX5_changeWheels, 3, none)
def mX5_enact : MethodName × ByteArray × Nat × Option FieldType := (yX5_enact, cX5_enact, 4, none)
def mX4_enact : MethodName × ByteArray × Nat × Option FieldType := (yX4_enact, cX4_enact, 3, none)
def mX2_awryIf : MethodName × ByteArray × Nat × Option FieldType := (yX2_awryIf, cX2_awryIf, 3, (some .int))
def mX4_isDone : MethodName × ByteArray × Nat × Option FieldType := (yX4_isDone, cX4_isDone, 2, (some .boolean))
def mX2_bestDeed : MethodName × ByteArray × Nat × Option FieldType := (yX2_bestDeed, cX2_bestDeed, 6, (some .int))
def mJ6_bitCount_0f7a4 : MethodName × ByteArray × Nat × Option FieldType := (yJ6_bitCount_0f7a4, cJ6_bitCount_0f7a4, 1, (some .int))
def mX4_leftCount : MethodName × ByteArray × Nat × Option FieldType := (yX4_leftCount, cX4_leftCount, 1, (some .int))
def mX2_isOutOfTurn : MethodName × ByteArray × Nat × Option FieldType := (yX2_isOutOfTurn, cX2_isOutOfTurn, 4, (some .boolean))
def mX2_findRow : MethodName × ByteArray × Nat × Option FieldType := (yX2_findRow, cX2_findRow, 7, (some .boolean))
def mX2_planLength : MethodName × ByteArray × Nat × Option FieldType := (yX2_planLength, cX2_planLength, 6, (some .int))
def mX2_share : MethodName × ByteArray × Nat × Option FieldType := (yX2_share, cX2_share, 4, (some .int))
def mX2_fewestBoards : MethodName × ByteArray × Nat × Option FieldType := (yX2_fewestBoards, cX2_fewestBoards, 10, (some .int))
def mX2_leastNoseLift : MethodName × ByteArray × Nat × Option FieldType := (yX2_leastNoseLift, cX2_leastNoseLift, 3, (some .int))
def mX2_leastLifting : MethodName × ByteArray × Nat × Option FieldType := (yX2_leastLifting, cX2_leastLifting, 6, (some .int))
def mX2_tryWith : MethodName × ByteArray × Nat × Option FieldType := (yX2_tryWith, cX2_tryWith, 5, none)
def mX5_tilt : MethodName × ByteArray × Nat × Option FieldType := (yX5_tilt, cX5_tilt, 2, (some .int))
def mX2_isSo : MethodName × ByteArray × Nat × Option FieldType := (yX2_isSo, cX2_isSo, 7, (some .boolean))
def mX2_casesInAll : MethodName × ByteArray × Nat × Option FieldType := (yX2_casesInAll, cX2_casesInAll, 5, (some .long))
def mX2_casesLevel : MethodName × ByteArray × Nat × Option FieldType := (yX2_casesLevel, cX2_casesLevel, 10, (some .long))
def mX2_drawNight : MethodName × ByteArray × Nat × Option FieldType := (yX2_drawNight, cX2_drawNight, 10, (some .int))
def mX3_init : MethodName × ByteArray × Nat × Option FieldType := (yX3_init, cX3_init, 1, none)
def mX3_isRow : MethodName × ByteArray × Nat × Option FieldType := (yX3_isRow, cX3_isRow, 2, (some .boolean))
def mX3_isMissing : MethodName × ByteArray × Nat × Option FieldType := (yX3_isMissing, cX3_isMissing, 2, (some .boolean))
def mX3_haveOneLane : MethodName × ByteArray × Nat × Option FieldType := (yX3_haveOneLane, cX3_haveOneLane, 3, (some .boolean))
def mX3_hasPlaces : MethodName × ByteArray × Nat × Option FieldType := (yX3_hasPlaces, cX3_hasPlaces, 4, (some .boolean))
def mX3_howMany : MethodName × ByteArray × Nat × Option FieldType := (yX3_howMany, cX3_howMany, 3, (some .int))
def mX3_make : MethodName × ByteArray × Nat × Option FieldType := (yX3_make, cX3_make, 5, (some .int))
def mX3_put : MethodName × ByteArray × Nat × Option FieldType := (yX3_put, cX3_put, 4, (some .int))
def mX3_move : MethodName × ByteArray × Nat × Option FieldType := (yX3_move, cX3_move, 6, (some .int))
def mX3_remove : MethodName × ByteArray × Nat × Option FieldType := (yX3_remove, cX3_remove, 2, (some .int))
def mX4_init : MethodName × ByteArray × Nat × Option FieldType := (yX4_init, cX4_init, 1, none)
def mX4_clear : MethodName × ByteArray × Nat × Option FieldType := (yX4_clear, cX4_clear, 1, none)
def mX4_copyFrom : MethodName × ByteArray × Nat × Option FieldType := (yX4_copyFrom, cX4_copyFrom, 2, none)
def mX4_addDeed : MethodName × ByteArray × Nat × Option FieldType := (yX4_addDeed, cX4_addDeed, 4, none)
def mX4_hasDeed : MethodName × ByteArray × Nat × Option FieldType := (yX4_hasDeed, cX4_hasDeed, 2, (some .boolean))
def mX4_passHour : MethodName × ByteArray × Nat × Option FieldType := (yX4_passHour, cX4_passHour, 1, none)
def mX5_allHeights : MethodName × ByteArray × Nat × Option FieldType := (yX5_allHeights, cX5_allHeights, 1, (some .int))
def mX6_init : MethodName × ByteArray × Nat × Option FieldType := (yX6_init, cX6_init, 1, none)
def mX6_isFull : MethodName × ByteArray × Nat × Option FieldType := (yX6_isFull, cX6_isFull, 1, (some .boolean))
def mX6_add : MethodName × ByteArray × Nat × Option FieldType := (yX6_add, cX6_add, 2, (some .int))
def mX6_clear : MethodName × ByteArray × Nat × Option FieldType := (yX6_clear, cX6_clear, 1, none)
def mX6_stop : MethodName × ByteArray × Nat × Option FieldType := (yX6_stop, cX6_stop, 2, (some .boolean))
def mX6_take : MethodName × ByteArray × Nat × Option FieldType := (yX6_take, cX6_take, 2, (some .boolean))
def mX6_takeNumber : MethodName × ByteArray × Nat × Option FieldType := (yX6_takeNumber, cX6_takeNumber, 7, (some .int))
def mX6_readLaw : MethodName × ByteArray × Nat × Option FieldType := (yX6_readLaw, cX6_readLaw, 2, (some .boolean))
def mX6_readAllFeet : MethodName × ByteArray × Nat × Option FieldType := (yX6_readAllFeet, cX6_readAllFeet, 3, (some .boolean))
def mX6_kindTold : MethodName × ByteArray × Nat × Option FieldType := (yX6_kindTold, cX6_kindTold, 1, (some .int))
def mX6_readDeed : MethodName × ByteArray × Nat × Option FieldType := (yX6_readDeed, cX6_readDeed, 6, (some .boolean))
def mX6_readDeeds : MethodName × ByteArray × Nat × Option FieldType := (yX6_readDeeds, cX6_readDeeds, 3, (some .boolean))
def mX6_readInto : MethodName × ByteArray × Nat × Option FieldType := (yX6_readInto, cX6_readInto, 2, (some .boolean))
def mX7_init : MethodName × ByteArray × Nat × Option FieldType := (yX7_init, cX7_init, 1, none)
def mX7_isWithin : MethodName × ByteArray × Nat × Option FieldType := (yX7_isWithin, cX7_isWithin, 3, (some .boolean))
def mX7_found : MethodName × ByteArray × Nat × Option FieldType := (yX7_found, cX7_found, 2, (some .int))
def mX7_unfound : MethodName × ByteArray × Nat × Option FieldType := (yX7_unfound, cX7_unfound, 2, (some .int))
def mX7_row : MethodName × ByteArray × Nat × Option FieldType := (yX7_row, cX7_row, 4, (some .int))
def mX7_set : MethodName × ByteArray × Nat × Option FieldType := (yX7_set, cX7_set, 4, (some .int))
def mX7_copy : MethodName × ByteArray × Nat × Option FieldType := (yX7_copy, cX7_copy, 6, (some .int))
def mX7_drop : MethodName × ByteArray × Nat × Option FieldType := (yX7_drop, cX7_drop, 2, (some .int))
def mX7_feed : MethodName × ByteArray × Nat × Option FieldType := (yX7_feed, cX7_feed, 2, (some .int))
def mX7_site : MethodName × ByteArray × Nat × Option FieldType := (yX7_site, cX7_site, 2, (some .int))
def mX7_fault : MethodName × ByteArray × Nat × Option FieldType := (yX7_fault, cX7_fault, 1, (some .int))
def mX7_undo : MethodName × ByteArray × Nat × Option FieldType := (yX7_undo, cX7_undo, 1, (some .int))
def mX7_hours : MethodName × ByteArray × Nat × Option FieldType := (yX7_hours, cX7_hours, 3, (some .int))
def mX7_perform : MethodName × ByteArray × Nat × Option FieldType := (yX7_perform, cX7_perform, 2, (some .int))
def mX7_isFoot : MethodName × ByteArray × Nat × Option FieldType := (yX7_isFoot, cX7_isFoot, 1, (some .boolean))
def mX7_board : MethodName × ByteArray × Nat × Option FieldType := (yX7_board, cX7_board, 2, (some .int))
def mX7_isAmount : MethodName × ByteArray × Nat × Option FieldType := (yX7_isAmount, cX7_isAmount, 1, (some .boolean))
def mX7_amount : MethodName × ByteArray × Nat × Option FieldType := (yX7_amount, cX7_amount, 4, (some .int))
def mX7_jack : MethodName × ByteArray × Nat × Option FieldType := (yX7_jack, cX7_jack, 3, (some .int))
def mX7_foot : MethodName × ByteArray × Nat × Option FieldType := (yX7_foot, cX7_foot, 3, (some .int))
def mX7_deed : MethodName × ByteArray × Nat × Option FieldType := (yX7_deed, cX7_deed, 3, (some .int))
def mX7_lean : MethodName × ByteArray × Nat × Option FieldType := (yX7_lean, cX7_lean, 2, (some .int))
def mX7_ahead : MethodName × ByteArray × Nat × Option FieldType := (yX7_ahead, cX7_ahead, 3, (some .int))
def mX7_leanAhead : MethodName × ByteArray × Nat × Option FieldType := (yX7_leanAhead, cX7_leanAhead, 3, (some .int))
def mX7_lasts : MethodName × ByteArray × Nat × Option FieldType := (yX7_lasts, cX7_lasts, 1, (some .int))
def mX7_first : MethodName × ByteArray × Nat × Option FieldType := (yX7_first, cX7_first, 2, (some .int))
def mX7_attempt : MethodName × ByteArray × Nat × Option FieldType := (yX7_attempt, cX7_attempt, 2, (some .int))
def mX7_best : MethodName × ByteArray × Nat × Option FieldType := (yX7_best, cX7_best, 3, (some .int))
def mX7_plan : MethodName × ByteArray × Nat × Option FieldType := (yX7_plan, cX7_plan, 4, (some .int))
def mX7_boards : MethodName × ByteArray × Nat × Option FieldType := (yX7_boards, cX7_boards, 4, (some .int))
def mX7_lift : MethodName × ByteArray × Nat × Option FieldType := (yX7_lift, cX7_lift, 3, (some .int))
def mX7_worst : MethodName × ByteArray × Nat × Option FieldType := (yX7_worst, cX7_worst, 4, (some .int))
def mX7_allThatFits : MethodName × ByteArray × Nat × Option FieldType := (yX7_allThatFits, cX7_allThatFits, 11, (some .int))
def mX7_who : MethodName × ByteArray × Nat × Option FieldType := (yX7_who, cX7_who, 6, (some .int))
def mX7_feet : MethodName × ByteArray × Nat × Option FieldType := (yX7_feet, cX7_feet, 6, (some .int))
def mX7_amounts : MethodName × ByteArray × Nat × Option FieldType := (yX7_amounts, cX7_amounts, 6, (some .int))
def mX7_greatestDivisor : MethodName × ByteArray × Nat × Option FieldType := (yX7_greatestDivisor, cX7_greatestDivisor, 7, (some .long))
def mX7_wrong : MethodName × ByteArray × Nat × Option FieldType := (yX7_wrong, cX7_wrong, 9, (some .long))
def mX7_drawn : MethodName × ByteArray × Nat × Option FieldType := (yX7_drawn, cX7_drawn, 5, (some .int))
def mX7_image : MethodName × ByteArray × Nat × Option FieldType := (yX7_image, cX7_image, 2, (some .int))
def mX7_restore : MethodName × ByteArray × Nat × Option FieldType := (yX7_restore, cX7_restore, 2, (some .int))
def mX7_kind : MethodName × ByteArray × Nat × Option FieldType := (yX7_kind, cX7_kind, 2, (some .int))
def mX7_as : MethodName × ByteArray × Nat × Option FieldType := (yX7_as, cX7_as, 3, (some .int))
def mX7_ask : MethodName × ByteArray × Nat × Option FieldType := (yX7_ask, cX7_ask, 3, (some .int))
def mX7_trace : MethodName × ByteArray × Nat × Option FieldType := (yX7_trace, cX7_trace, 2, (some .int))
def mX7_count : MethodName × ByteArray × Nat × Option FieldType := (yX7_count, cX7_count, 2, (some .int))
def mX7_status : MethodName × ByteArray × Nat × Option FieldType := (yX7_status, cX7_status, 1, (some .int))
def mX8_init : MethodName × ByteArray × Nat × Option FieldType := (yX8_init, cX8_init, 1, none)
def mX8_in : MethodName × ByteArray × Nat × Option FieldType := (yX8_in, cX8_in, 6, (some .boolean))
def mX8_finding : MethodName × ByteArray × Nat × Option FieldType := (yX8_finding, cX8_finding, 2, (some .int))
def mX8_isRow : MethodName × ByteArray × Nat × Option FieldType := (yX8_isRow, cX8_isRow, 1, (some .boolean))
def mX8_row : MethodName × ByteArray × Nat × Option FieldType := (yX8_row, cX8_row, 5, (some .int))
def mX8_set : MethodName × ByteArray × Nat × Option FieldType := (yX8_set, cX8_set, 4, (some .int))
def mX8_copy : MethodName × ByteArray × Nat × Option FieldType := (yX8_copy, cX8_copy, 9, (some .int))
def mX8_drop : MethodName × ByteArray × Nat × Option FieldType := (yX8_drop, cX8_drop, 2, (some .int))
def mX8_feed : MethodName × ByteArray × Nat × Option FieldType := (yX8_feed, cX8_feed, 2, (some .int))
def mX8_bad : MethodName × ByteArray × Nat × Option FieldType := (yX8_bad, cX8_bad, 2, none)
def mX8_nextToken : MethodName × ByteArray × Nat × Option FieldType := (yX8_nextToken, cX8_nextToken, 1, none)
def mX8_must : MethodName × ByteArray × Nat × Option FieldType := (yX8_must, cX8_must, 2, none)
def mX8_isLetter : MethodName × ByteArray × Nat × Option FieldType := (yX8_isLetter, cX8_isLetter, 2, (some .boolean))
def mX8_number : MethodName × ByteArray × Nat × Option FieldType := (yX8_number, cX8_number, 4, (some .int))
def mX8_mustSign : MethodName × ByteArray × Nat × Option FieldType := (yX8_mustSign, cX8_mustSign, 2, none)
def mX8_begin : MethodName × ByteArray × Nat × Option FieldType := (yX8_begin, cX8_begin, 1, none)
def mX8_failed : MethodName × ByteArray × Nat × Option FieldType := (yX8_failed, cX8_failed, 1, (some .boolean))
def mX8_fault : MethodName × ByteArray × Nat × Option FieldType := (yX8_fault, cX8_fault, 1, (some .int))
def mX8_kindBy : MethodName × ByteArray × Nat × Option FieldType := (yX8_kindBy, cX8_kindBy, 1, (some .int))
def mX8_isSort : MethodName × ByteArray × Nat × Option FieldType := (yX8_isSort, cX8_isSort, 1, (some .boolean))
def mX8_readFoot : MethodName × ByteArray × Nat × Option FieldType := (yX8_readFoot, cX8_readFoot, 2, none)
def mX8_readDeed : MethodName × ByteArray × Nat × Option FieldType := (yX8_readDeed, cX8_readDeed, 5, none)
def mX8_site : MethodName × ByteArray × Nat × Option FieldType := (yX8_site, cX8_site, 2, (some .int))
def mX8_isThere : MethodName × ByteArray × Nat × Option FieldType := (yX8_isThere, cX8_isThere, 1, (some .boolean))
def mX8_isDeed : MethodName × ByteArray × Nat × Option FieldType := (yX8_isDeed, cX8_isDeed, 2, (some .boolean))
def mX8_isFoot : MethodName × ByteArray × Nat × Option FieldType := (yX8_isFoot, cX8_isFoot, 1, (some .boolean))
def mX8_of : MethodName × ByteArray × Nat × Option FieldType := (yX8_of, cX8_of, 3, (some .int))
def mX8_sideOf : MethodName × ByteArray × Nat × Option FieldType := (yX8_sideOf, cX8_sideOf, 1, (some .int))
def mX8_middleOf : MethodName × ByteArray × Nat × Option FieldType := (yX8_middleOf, cX8_middleOf, 1, (some .int))
def mX8_alongOf : MethodName × ByteArray × Nat × Option FieldType := (yX8_alongOf, cX8_alongOf, 1, (some .int))
def mX8_off : MethodName × ByteArray × Nat × Option FieldType := (yX8_off, cX8_off, 1, (some .int))
def mX8_awryOf : MethodName × ByteArray × Nat × Option FieldType := (yX8_awryOf, cX8_awryOf, 1, (some .int))
def mX8_isLevel : MethodName × ByteArray × Nat × Option FieldType := (yX8_isLevel, cX8_isLevel, 1, (some .boolean))
def mX8_lifts : MethodName × ByteArray × Nat × Option FieldType := (yX8_lifts, cX8_lifts, 4, none)
def mX8_winds : MethodName × ByteArray × Nat × Option FieldType := (yX8_winds, cX8_winds, 2, none)
def mX8_does : MethodName × ByteArray × Nat × Option FieldType := (yX8_does, cX8_does, 6, none)
def mX8_hour : MethodName × ByteArray × Nat × Option FieldType := (yX8_hour, cX8_hour, 2, none)
def mX8_hoursOf : MethodName × ByteArray × Nat × Option FieldType := (yX8_hoursOf, cX8_hoursOf, 3, none)
def mX8_isDone : MethodName × ByteArray × Nat × Option FieldType := (yX8_isDone, cX8_isDone, 2, (some .boolean))
def mX8_layThen : MethodName × ByteArray × Nat × Option FieldType := (yX8_layThen, cX8_layThen, 2, none)
def mX8_keep : MethodName × ByteArray × Nat × Option FieldType := (yX8_keep, cX8_keep, 2, none)
def mX8_hours : MethodName × ByteArray × Nat × Option FieldType := (yX8_hours, cX8_hours, 3, (some .int))
def mX8_perform : MethodName × ByteArray × Nat × Option FieldType := (yX8_perform, cX8_perform, 2, (some .int))
def mX8_board : MethodName × ByteArray × Nat × Option FieldType := (yX8_board, cX8_board, 2, (some .int))
def mX8_amount : MethodName × ByteArray × Nat × Option FieldType := (yX8_amount, cX8_amount, 4, (some .int))
def mX8_jack : MethodName × ByteArray × Nat × Option FieldType := (yX8_jack, cX8_jack, 3, (some .int))
def mX8_undo : MethodName × ByteArray × Nat × Option FieldType := (yX8_undo, cX8_undo, 2, (some .int))
def mX8_foot : MethodName × ByteArray × Nat × Option FieldType := (yX8_foot, cX8_foot, 3, (some .int))
def mX8_deed : MethodName × ByteArray × Nat × Option FieldType := (yX8_deed, cX8_deed, 3, (some .int))
def mX8_lean : MethodName × ByteArray × Nat × Option FieldType := (yX8_lean, cX8_lean, 2, (some .int))
def mX8_ahead : MethodName × ByteArray × Nat × Option FieldType := (yX8_ahead, cX8_ahead, 3, (some .int))
def mX8_leanAhead : MethodName × ByteArray × Nat × Option FieldType := (yX8_leanAhead, cX8_leanAhead, 3, (some .int))
def mX8_firstBy : MethodName × ByteArray × Nat × Option FieldType := (yX8_firstBy, cX8_firstBy, 3, (some .int))
def mX8_lasts : MethodName × ByteArray × Nat × Option FieldType := (yX8_lasts, cX8_lasts, 1, (some .int))
def mX8_first : MethodName × ByteArray × Nat × Option FieldType := (yX8_first, cX8_first, 2, (some .int))
def mX8_awryBy : MethodName × ByteArray × Nat × Option FieldType := (yX8_awryBy, cX8_awryBy, 2, (some .int))
def mX8_attempt : MethodName × ByteArray × Nat × Option FieldType := (yX8_attempt, cX8_attempt, 2, (some .int))
def mX8_best : MethodName × ByteArray × Nat × Option FieldType := (yX8_best, cX8_best, 7, (some .int))
def mX8_layStep : MethodName × ByteArray × Nat × Option FieldType := (yX8_layStep, cX8_layStep, 3, none)
def mX8_isStepDone : MethodName × ByteArray × Nat × Option FieldType := (yX8_isStepDone, cX8_isStepDone, 3, (some .boolean))
def mX8_planned : MethodName × ByteArray × Nat × Option FieldType := (yX8_planned, cX8_planned, 6, (some .boolean))
def mX8_plan : MethodName × ByteArray × Nat × Option FieldType := (yX8_plan, cX8_plan, 4, (some .int))
def mX8_boards : MethodName × ByteArray × Nat × Option FieldType := (yX8_boards, cX8_boards, 9, (some .int))
def mX8_lift : MethodName × ByteArray × Nat × Option FieldType := (yX8_lift, cX8_lift, 7, (some .int))
def mX8_worst : MethodName × ByteArray × Nat × Option FieldType := (yX8_worst, cX8_worst, 7, (some .int))
def mX8_leansSo : MethodName × ByteArray × Nat × Option FieldType := (yX8_leansSo, cX8_leansSo, 6, (some .boolean))
def mX8_fits : MethodName × ByteArray × Nat × Option FieldType := (yX8_fits, cX8_fits, 11, (some .int))
def mX8_who : MethodName × ByteArray × Nat × Option FieldType := (yX8_who, cX8_who, 6, (some .int))
def mX8_feet : MethodName × ByteArray × Nat × Option FieldType := (yX8_feet, cX8_feet, 6, (some .int))
def mX8_amounts : MethodName × ByteArray × Nat × Option FieldType := (yX8_amounts, cX8_amounts, 6, (some .int))
def mX8_wrong : MethodName × ByteArray × Nat × Option FieldType := (yX8_wrong, cX8_wrong, 14, (some .long))
def mX8_drawn : MethodName × ByteArray × Nat × Option FieldType := (yX8_drawn, cX8_drawn, 9, (some .int))
def mX8_image : MethodName × ByteArray × Nat × Option FieldType := (yX8_image, cX8_image, 3, (some .int))
def mX8_restore : MethodName × ByteArray × Nat × Option FieldType := (yX8_restore, cX8_restore, 3, (some .int))
def mX8_isOf : MethodName × ByteArray × Nat × Option FieldType := (yX8_isOf, cX8_isOf, 2, (some .boolean))
def mX8_kind : MethodName × ByteArray × Nat × Option FieldType := (yX8_kind, cX8_kind, 2, (some .int))
def mX8_as : MethodName × ByteArray × Nat × Option FieldType := (yX8_as, cX8_as, 3, (some .int))
def mX8_began : MethodName × ByteArray × Nat × Option FieldType := (yX8_began, cX8_began, 2, none)
def mX8_plainSize : MethodName × ByteArray × Nat × Option FieldType := (yX8_plainSize, cX8_plainSize, 2, (some .int))
def mX8_woundSize : MethodName × ByteArray × Nat × Option FieldType := (yX8_woundSize, cX8_woundSize, 4, (some .int))
def mX8_markOf : MethodName × ByteArray × Nat × Option FieldType := (yX8_markOf, cX8_markOf, 4, (some .int))
def mX8_sizeOf : MethodName × ByteArray × Nat × Option FieldType := (yX8_sizeOf, cX8_sizeOf, 4, (some .int))
def mX8_ask : MethodName × ByteArray × Nat × Option FieldType := (yX8_ask, cX8_ask, 3, (some .int))
def mX8_trace : MethodName × ByteArray × Nat × Option FieldType := (yX8_trace, cX8_trace, 2, (some .int))
def mX8_count : MethodName × ByteArray × Nat × Option FieldType := (yX8_count, cX8_count, 4, (some .int))
def mX8_status : MethodName × ByteArray × Nat × Option FieldType := (yX8_status, cX8_status, 1, (some .int))
def mJ9_abs_0f7a4 : MethodName × ByteArray × Nat × Option FieldType := (yJ9_abs_0f7a4, cJ9_abs_0f7a4, 1, (some .int))
def mJ9_max_7cf53 : MethodName × ByteArray × Nat × Option FieldType := (yJ9_max_7cf53, cJ9_max_7cf53, 2, (some .int))
def mJ9_min_7cf53 : MethodName × ByteArray × Nat × Option FieldType := (yJ9_min_7cf53, cJ9_min_7cf53, 2, (some .int))
