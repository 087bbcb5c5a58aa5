/-! ===== rows of the small world, an instruction each ===== -/
theorem qI_t {a : Int} (h : -2147483648 ≤ a ∧ a ≤ 2147483647) : (Int32.ofInt a).toInt = a := Int32.toInt_ofInt_of_le (by omega) (by omega)
theorem qI_lt {a b : Int} (ha : -2147483648 ≤ a ∧ a ≤ 2147483647) (hb : -2147483648 ≤ b ∧ b ≤ 2147483647) : Int32.ofInt a < Int32.ofInt b ↔ a < b := by
  rw [Int32.lt_iff_toInt_lt, qI_t ha, qI_t hb]
theorem qI_le {a b : Int} (ha : -2147483648 ≤ a ∧ a ≤ 2147483647) (hb : -2147483648 ≤ b ∧ b ≤ 2147483647) : Int32.ofInt a ≤ Int32.ofInt b ↔ a ≤ b := by
  rw [Int32.le_iff_toInt_le, qI_t ha, qI_t hb]
theorem qI_eq {a b : Int} (ha : -2147483648 ≤ a ∧ a ≤ 2147483647) (hb : -2147483648 ≤ b ∧ b ≤ 2147483647) : Int32.ofInt a = Int32.ofInt b ↔ a = b := by
  rw [← Int32.toInt_inj, qI_t ha, qI_t hb]
theorem qI_0 : (0 : Int32) = Int32.ofInt 0 := by decide +kernel
theorem qI_cl {a : Int} (h : 0 ≤ a) (h2 : a ≤ 2147483647) : (Int32.ofInt a).toNatClampNeg = a.toNat := by
  rw [Int32.toNatClampNeg, qI_t ⟨by omega, h2⟩]
theorem qI_in {a : Int} {n : Nat} (h : 0 ≤ a) (h2 : a < n) (hn : n ≤ 2147483647) : vp_in (Int32.ofInt a) n := by
  unfold vp_in
  rw [qI_cl h (by omega), qI_0, qI_lt ⟨by omega, by omega⟩ ⟨by omega, by omega⟩]
  omega
theorem qJ_t {a : Int} (h : -9223372036854775808 ≤ a ∧ a ≤ 9223372036854775807) : (Int64.ofInt a).toInt = a := Int64.toInt_ofInt_of_le (by omega) (by omega)
theorem qJ_lt {a b : Int} (ha : -9223372036854775808 ≤ a ∧ a ≤ 9223372036854775807) (hb : -9223372036854775808 ≤ b ∧ b ≤ 9223372036854775807) : Int64.ofInt a < Int64.ofInt b ↔ a < b := by
  rw [Int64.lt_iff_toInt_lt, qJ_t ha, qJ_t hb]
theorem qJ_eq {a b : Int} (ha : -9223372036854775808 ≤ a ∧ a ≤ 9223372036854775807) (hb : -9223372036854775808 ≤ b ∧ b ≤ 9223372036854775807) : Int64.ofInt a = Int64.ofInt b ↔ a = b := by
  rw [← Int64.toInt_inj, qJ_t ha, qJ_t hb]
theorem qI_div {a b : Int} (h0 : 0 ≤ a) (ha : a ≤ 2147483647) (hb0 : 0 < b) (hb : b ≤ 2147483647) : Int32.ofInt a / Int32.ofInt b = Int32.ofInt (a / b) := by
  rw [← Int.tdiv_eq_ediv_of_nonneg h0]
  exact (Int32.ofInt_tdiv (by rw [Int32.toInt_minValue]; omega) (by rw [Int32.toInt_maxValue]; omega) (by rw [Int32.toInt_minValue]; omega) (by rw [Int32.toInt_maxValue]; omega)).symm
theorem qJ_div {a b : Int} (h0 : 0 ≤ a) (ha : a ≤ 9223372036854775807) (hb0 : 0 < b) (hb : b ≤ 9223372036854775807) : Int64.ofInt a / Int64.ofInt b = Int64.ofInt (a / b) := by
  rw [← Int.tdiv_eq_ediv_of_nonneg h0]
  exact (Int64.ofInt_tdiv (by rw [Int64.toInt_minValue]; omega) (by rw [Int64.toInt_maxValue]; omega) (by rw [Int64.toInt_minValue]; omega) (by rw [Int64.toInt_maxValue]; omega)).symm
def qand (a b : Int) : Int := (Int32.ofInt a &&& Int32.ofInt b).toInt
def qor (a b : Int) : Int := (Int32.ofInt a ||| Int32.ofInt b).toInt
def qxor (a b : Int) : Int := (Int32.ofInt a ^^^ Int32.ofInt b).toInt
def qshl (a b : Int) : Int := (Int32.ofInt a <<< (Int32.ofInt b &&& 31)).toInt
def qshr (a b : Int) : Int := (Int32.ofInt a >>> (Int32.ofInt b &&& 31)).toInt
def qush (a b : Int) : Int := ((Int32.ofInt a).toUInt32 >>> ((Int32.ofInt b).toUInt32 &&& Int32.toUInt32 31)).toInt32.toInt
def qi2b (a : Int) : Int := (Int32.ofInt a).toInt8.toInt32.toInt
def qi2s (a : Int) : Int := (Int32.ofInt a).toInt16.toInt32.toInt
def qcmp (x y : Int) : Int := if y < x then 1 else if x = y then 0 else -1
/-- 1 where it holds, else 0 -/
def bi (c : Prop) [Decidable c] : Int := if c then 1 else 0
section QA
variable {G : qGl} {y : qY} {d pc : Nat} {L : List (Nat × qV)} {st : List qV} {σ : qM} {Q : Option qV → qM → Prop} {a b : Int}
theorem q_iinc {i : Nat} {n z : Int} (hd : decode y.2.1 pc = .ok (.iinc i n, 3)) (h : qget L i = some (.inl z)) (hn : i < y.2.2.1) (k : qE G y d (pc + 3) (qst1 L i (.inl (z + n))) st σ Q) : qE G y d pc L st σ Q := by
  intro p e R s m args below meth c H locs k' n' ls C Ws Wd S hl
  obtain ⟨j, hj⟩ : ∃ j : Nat, L[j]? = some (i, vi z) := by
    unfold qget at h
    cases hf : L.find? (fun q => q.1 == i) with
    | none => rw [hf] at h; cases h
    | some q =>
      rw [hf] at h
      have hk : q.1 = i := by simpa using List.find?_some hf
      have hv : q.2 = .inl z := Option.some.inj h
      obtain ⟨j, hj⟩ := List.getElem?_of_mem (List.mem_of_find?_eq_some hf)
      exact ⟨j, by rw [hj, ← hk]; exact congrArg some (Prod.ext rfl hv)⟩
  refine lv_iinc (k := j) (x := Int32.ofInt z) (v := Int32.ofInt (z + n)) C.1 C.2.1 hd hl ?_ (Int32.ofInt_add z n).symm hn (qst1_ok (v := .inl (z + n))) (fun ls' hl' => k p e R s m args below meth c H locs k' n' ls' C Ws Wd S hl')
  unfold qL
  rw [List.getElem?_map, hj]
  rfl
theorem q_iadd (hd : decode y.2.1 pc = .ok (.iadd, 1)) (k : qE G y d (pc + 1) L (.inl (a + b) :: st) σ Q) : qE G y d pc L (.inl b :: .inl a :: st) σ Q :=
  fun p e R s m args below meth c H locs k' n' ls C Ws Wd S hl => lv_iadd C.1 C.2.1 hd (by rw [← Int32.ofInt_add]; exact k p e R s m args below meth c H locs k' n' ls C Ws Wd S hl)
theorem q_isub (hd : decode y.2.1 pc = .ok (.isub, 1)) (k : qE G y d (pc + 1) L (.inl (a - b) :: st) σ Q) : qE G y d pc L (.inl b :: .inl a :: st) σ Q :=
  fun p e R s m args below meth c H locs k' n' ls C Ws Wd S hl => lv_isub C.1 C.2.1 hd (by rw [← Int32.ofInt_sub]; exact k p e R s m args below meth c H locs k' n' ls C Ws Wd S hl)
theorem q_imul (hd : decode y.2.1 pc = .ok (.imul, 1)) (k : qE G y d (pc + 1) L (.inl (a * b) :: st) σ Q) : qE G y d pc L (.inl b :: .inl a :: st) σ Q :=
  fun p e R s m args below meth c H locs k' n' ls C Ws Wd S hl => lv_imul C.1 C.2.1 hd (by rw [← Int32.ofInt_mul]; exact k p e R s m args below meth c H locs k' n' ls C Ws Wd S hl)
theorem q_ineg (hd : decode y.2.1 pc = .ok (.ineg, 1)) (k : qE G y d (pc + 1) L (.inl (-a) :: st) σ Q) : qE G y d pc L (.inl a :: st) σ Q :=
  fun p e R s m args below meth c H locs k' n' ls C Ws Wd S hl => lv_ineg C.1 C.2.1 hd (by rw [← Int32.ofInt_neg]; exact k p e R s m args below meth c H locs k' n' ls C Ws Wd S hl)
theorem q_idiv (hd : decode y.2.1 pc = .ok (.idiv, 1)) (h : 0 ≤ a ∧ a ≤ 2147483647 ∧ 0 < b ∧ b ≤ 2147483647) (k : qE G y d (pc + 1) L (.inl (a / b) :: st) σ Q) : qE G y d pc L (.inl b :: .inl a :: st) σ Q :=
  fun p e R s m args below meth c H locs k' n' ls C Ws Wd S hl => lv_idiv C.1 C.2.1 hd (by rw [qI_0, qI_eq ⟨by omega, by omega⟩ ⟨by omega, by omega⟩]; omega) (by rw [qI_div h.1 h.2.1 h.2.2.1 h.2.2.2]; exact k p e R s m args below meth c H locs k' n' ls C Ws Wd S hl)
theorem q_irem (hd : decode y.2.1 pc = .ok (.irem, 1)) (h : 0 ≤ a ∧ a ≤ 2147483647 ∧ 0 < b ∧ b ≤ 2147483647) (k : qE G y d (pc + 1) L (.inl (a % b) :: st) σ Q) : qE G y d pc L (.inl b :: .inl a :: st) σ Q :=
  fun p e R s m args below meth c H locs k' n' ls C Ws Wd S hl => lv_irem C.1 C.2.1 hd (by rw [qI_0, qI_eq ⟨by omega, by omega⟩ ⟨by omega, by omega⟩]; omega) (by
    rw [qI_div h.1 h.2.1 h.2.2.1 h.2.2.2, ← Int32.ofInt_mul, ← Int32.ofInt_sub, show a - a / b * b = a % b by rw [Int.emod_def, Int.mul_comm]]; exact k p e R s m args below meth c H locs k' n' ls C Ws Wd S hl)
theorem q_iand (hd : decode y.2.1 pc = .ok (.iand, 1)) (k : qE G y d (pc + 1) L (.inl (qand a b) :: st) σ Q) : qE G y d pc L (.inl b :: .inl a :: st) σ Q :=
  fun p e R s m args below meth c H locs k' n' ls C Ws Wd S hl => lv_iand C.1 C.2.1 hd (by rw [← Int32.ofInt_toInt (Int32.ofInt a &&& Int32.ofInt b)]; exact k p e R s m args below meth c H locs k' n' ls C Ws Wd S hl)
theorem q_ior (hd : decode y.2.1 pc = .ok (.ior, 1)) (k : qE G y d (pc + 1) L (.inl (qor a b) :: st) σ Q) : qE G y d pc L (.inl b :: .inl a :: st) σ Q :=
  fun p e R s m args below meth c H locs k' n' ls C Ws Wd S hl => lv_ior C.1 C.2.1 hd (by rw [← Int32.ofInt_toInt (Int32.ofInt a ||| Int32.ofInt b)]; exact k p e R s m args below meth c H locs k' n' ls C Ws Wd S hl)
theorem q_ixor (hd : decode y.2.1 pc = .ok (.ixor, 1)) (k : qE G y d (pc + 1) L (.inl (qxor a b) :: st) σ Q) : qE G y d pc L (.inl b :: .inl a :: st) σ Q :=
  fun p e R s m args below meth c H locs k' n' ls C Ws Wd S hl => lv_ixor C.1 C.2.1 hd (by rw [← Int32.ofInt_toInt (Int32.ofInt a ^^^ Int32.ofInt b)]; exact k p e R s m args below meth c H locs k' n' ls C Ws Wd S hl)
theorem q_ishl (hd : decode y.2.1 pc = .ok (.ishl, 1)) (k : qE G y d (pc + 1) L (.inl (qshl a b) :: st) σ Q) : qE G y d pc L (.inl b :: .inl a :: st) σ Q :=
  fun p e R s m args below meth c H locs k' n' ls C Ws Wd S hl => lv_ishl C.1 C.2.1 hd (by rw [← Int32.ofInt_toInt (Int32.ofInt a <<< (Int32.ofInt b &&& 31))]; exact k p e R s m args below meth c H locs k' n' ls C Ws Wd S hl)
theorem q_ishr (hd : decode y.2.1 pc = .ok (.ishr, 1)) (k : qE G y d (pc + 1) L (.inl (qshr a b) :: st) σ Q) : qE G y d pc L (.inl b :: .inl a :: st) σ Q :=
  fun p e R s m args below meth c H locs k' n' ls C Ws Wd S hl => lv_ishr C.1 C.2.1 hd (by rw [← Int32.ofInt_toInt (Int32.ofInt a >>> (Int32.ofInt b &&& 31))]; exact k p e R s m args below meth c H locs k' n' ls C Ws Wd S hl)
theorem q_iushr (hd : decode y.2.1 pc = .ok (.iushr, 1)) (k : qE G y d (pc + 1) L (.inl (qush a b) :: st) σ Q) : qE G y d pc L (.inl b :: .inl a :: st) σ Q :=
  fun p e R s m args below meth c H locs k' n' ls C Ws Wd S hl => lv_iushr C.1 C.2.1 hd (Int32.ofInt_toInt _).symm (k p e R s m args below meth c H locs k' n' ls C Ws Wd S hl)
theorem q_i2b (hd : decode y.2.1 pc = .ok (.i2b, 1)) (k : qE G y d (pc + 1) L (.inl (qi2b a) :: st) σ Q) : qE G y d pc L (.inl a :: st) σ Q :=
  fun p e R s m args below meth c H locs k' n' ls C Ws Wd S hl => lv_i2b C.1 C.2.1 hd (Int32.ofInt_toInt _).symm (k p e R s m args below meth c H locs k' n' ls C Ws Wd S hl)
theorem q_i2s (hd : decode y.2.1 pc = .ok (.i2s, 1)) (k : qE G y d (pc + 1) L (.inl (qi2s a) :: st) σ Q) : qE G y d pc L (.inl a :: st) σ Q :=
  fun p e R s m args below meth c H locs k' n' ls C Ws Wd S hl => lv_i2s C.1 C.2.1 hd (Int32.ofInt_toInt _).symm (k p e R s m args below meth c H locs k' n' ls C Ws Wd S hl)
theorem q_i2l (hd : decode y.2.1 pc = .ok (.i2l, 1)) (h : -2147483648 ≤ a ∧ a ≤ 2147483647) (k : qE G y d (pc + 1) L (.inr (.inl a) :: st) σ Q) : qE G y d pc L (.inl a :: st) σ Q :=
  fun p e R s m args below meth c H locs k' n' ls C Ws Wd S hl => lv_i2l C.1 C.2.1 hd (by
    rw [← Int64.toInt_inj, Int32.toInt_toInt64, qI_t h, qJ_t ⟨by omega, by omega⟩]) (k p e R s m args below meth c H locs k' n' ls C Ws Wd S hl)
theorem q_l2i (hd : decode y.2.1 pc = .ok (.l2i, 1)) (h : -2147483648 ≤ a ∧ a ≤ 2147483647) (k : qE G y d (pc + 1) L (.inl a :: st) σ Q) : qE G y d pc L (.inr (.inl a) :: st) σ Q :=
  fun p e R s m args below meth c H locs k' n' ls C Ws Wd S hl => lv_l2i C.1 C.2.1 hd (by
    rw [← Int32.toInt_inj, Int64.toInt_toInt32, qJ_t ⟨by omega, by omega⟩, qI_t h]
    rw [Int.bmod_eq_of_le (by omega) (by omega)]) (k p e R s m args below meth c H locs k' n' ls C Ws Wd S hl)
theorem q_ladd (hd : decode y.2.1 pc = .ok (.ladd, 1)) (k : qE G y d (pc + 1) L (.inr (.inl (a + b)) :: st) σ Q) : qE G y d pc L (.inr (.inl b) :: .inr (.inl a) :: st) σ Q :=
  fun p e R s m args below meth c H locs k' n' ls C Ws Wd S hl => lv_ladd C.1 C.2.1 hd (by rw [← Int64.ofInt_add]; exact k p e R s m args below meth c H locs k' n' ls C Ws Wd S hl)
theorem q_lsub (hd : decode y.2.1 pc = .ok (.lsub, 1)) (k : qE G y d (pc + 1) L (.inr (.inl (a - b)) :: st) σ Q) : qE G y d pc L (.inr (.inl b) :: .inr (.inl a) :: st) σ Q :=
  fun p e R s m args below meth c H locs k' n' ls C Ws Wd S hl => lv_lsub C.1 C.2.1 hd (by rw [← Int64.ofInt_sub]; exact k p e R s m args below meth c H locs k' n' ls C Ws Wd S hl)
theorem q_lmul (hd : decode y.2.1 pc = .ok (.lmul, 1)) (k : qE G y d (pc + 1) L (.inr (.inl (a * b)) :: st) σ Q) : qE G y d pc L (.inr (.inl b) :: .inr (.inl a) :: st) σ Q :=
  fun p e R s m args below meth c H locs k' n' ls C Ws Wd S hl => lv_lmul C.1 C.2.1 hd (by rw [← Int64.ofInt_mul]; exact k p e R s m args below meth c H locs k' n' ls C Ws Wd S hl)
theorem q_ldiv (hd : decode y.2.1 pc = .ok (.ldiv, 1)) (h : 0 ≤ a ∧ a ≤ 9223372036854775807 ∧ 0 < b ∧ b ≤ 9223372036854775807) (k : qE G y d (pc + 1) L (.inr (.inl (a / b)) :: st) σ Q) : qE G y d pc L (.inr (.inl b) :: .inr (.inl a) :: st) σ Q :=
  fun p e R s m args below meth c H locs k' n' ls C Ws Wd S hl => lv_ldiv C.1 C.2.1 hd (by rw [show (0 : Int64) = Int64.ofInt 0 from by decide +kernel, qJ_eq ⟨by omega, by omega⟩ ⟨by omega, by omega⟩]; omega) (by rw [qJ_div h.1 h.2.1 h.2.2.1 h.2.2.2]; exact k p e R s m args below meth c H locs k' n' ls C Ws Wd S hl)
theorem q_lrem (hd : decode y.2.1 pc = .ok (.lrem, 1)) (h : 0 ≤ a ∧ a ≤ 9223372036854775807 ∧ 0 < b ∧ b ≤ 9223372036854775807) (k : qE G y d (pc + 1) L (.inr (.inl (a % b)) :: st) σ Q) : qE G y d pc L (.inr (.inl b) :: .inr (.inl a) :: st) σ Q :=
  fun p e R s m args below meth c H locs k' n' ls C Ws Wd S hl => lv_lrem C.1 C.2.1 hd (by rw [show (0 : Int64) = Int64.ofInt 0 from by decide +kernel, qJ_eq ⟨by omega, by omega⟩ ⟨by omega, by omega⟩]; omega) (by
    rw [qJ_div h.1 h.2.1 h.2.2.1 h.2.2.2, ← Int64.ofInt_mul, ← Int64.ofInt_sub, show a - a / b * b = a % b by rw [Int.emod_def, Int.mul_comm]]; exact k p e R s m args below meth c H locs k' n' ls C Ws Wd S hl)
theorem q_lcmp (hd : decode y.2.1 pc = .ok (.lcmp, 1)) (ha : -9223372036854775808 ≤ a ∧ a ≤ 9223372036854775807) (hb : -9223372036854775808 ≤ b ∧ b ≤ 9223372036854775807) (k : qE G y d (pc + 1) L (.inl (qcmp a b) :: st) σ Q) : qE G y d pc L (.inr (.inl b) :: .inr (.inl a) :: st) σ Q :=
  fun p e R s m args below meth c H locs k' n' ls C Ws Wd S hl => W.lcmp C.1 C.2.1 hd (by
    have he : lg_cmp (Int64.ofInt a) (Int64.ofInt b) = Int32.ofInt (qcmp a b) := by
      unfold lg_cmp qcmp
      simp only [gt_iff_lt, qJ_lt hb ha, qJ_eq ha hb]
      split
      · rfl
      · split <;> rfl
    rw [he]
    exact k p e R s m args below meth c H locs k' n' ls C Ws Wd S hl)
theorem q_dup {v : qV} (hd : decode y.2.1 pc = .ok (.dup, 1)) (hv : qcat v = 1) (k : qE G y d (pc + 1) L (v :: v :: st) σ Q) : qE G y d pc L (v :: st) σ Q :=
  fun p e R s m args below meth c H locs k' n' ls C Ws Wd S hl => lv_dup C.1 C.2.1 hd (by rw [qcat_ok]; exact hv) (k p e R s m args below meth c H locs k' n' ls C Ws Wd S hl)
theorem q_pop {v : qV} (hd : decode y.2.1 pc = .ok (.pop, 1)) (hv : qcat v = 1) (k : qE G y d (pc + 1) L st σ Q) : qE G y d pc L (v :: st) σ Q :=
  fun p e R s m args below meth c H locs k' n' ls C Ws Wd S hl => lv_pop C.1 C.2.1 hd (by rw [qcat_ok]; exact hv) (k p e R s m args below meth c H locs k' n' ls C Ws Wd S hl)
theorem q_dup_x1 {v w : qV} (hd : decode y.2.1 pc = .ok (.dup_x1, 1)) (hv : qcat v = 1) (hw : qcat w = 1) (k : qE G y d (pc + 1) L (v :: w :: v :: st) σ Q) : qE G y d pc L (v :: w :: st) σ Q :=
  fun p e R s m args below meth c H locs k' n' ls C Ws Wd S hl => lv_dup_x1 C.1 C.2.1 hd (by rw [qcat_ok]; exact hv) (by rw [qcat_ok]; exact hw) (k p e R s m args below meth c H locs k' n' ls C Ws Wd S hl)
theorem q_dup2 {v w : qV} (hd : decode y.2.1 pc = .ok (.dup2, 1)) (hv : qcat v = 1) (hw : qcat w = 1) (k : qE G y d (pc + 1) L (v :: w :: v :: w :: st) σ Q) : qE G y d pc L (v :: w :: st) σ Q :=
  fun p e R s m args below meth c H locs k' n' ls C Ws Wd S hl => lv_dup2_11 C.1 C.2.1 hd (by rw [qcat_ok]; exact hv) (by rw [qcat_ok]; exact hw) (k p e R s m args below meth c H locs k' n' ls C Ws Wd S hl)
theorem q_goto {off : Int} {tgt : Nat} (hd : decode y.2.1 pc = .ok (.goto off, 3)) (ht : (pc : Int) + off = (tgt : Int)) (k : qE G y d tgt L st σ Q) : qE G y d pc L st σ Q :=
  fun p e R s m args below meth c H locs k' n' ls C Ws Wd S hl => lv_goto C.1 C.2.1 hd ht (k p e R s m args below meth c H locs k' n' ls C Ws Wd S hl)
end QA
section QB
variable {G : qGl} {y : qY} {d pc : Nat} {L : List (Nat × qV)} {st : List qV} {σ : qM} {Q : Option qV → qM → Prop} {a b : Int}
theorem q_ifeq {off : Int} {tgt : Nat} (hd : decode y.2.1 pc = .ok (.ifCond .eq off, 3)) (ht : (pc : Int) + off = (tgt : Int)) (ha : -2147483648 ≤ a ∧ a ≤ 2147483647) (kt : a = 0 → qE G y d tgt L st σ Q) (kf : ¬ (a = 0) → qE G y d (pc + 3) L st σ Q) : qE G y d pc L (.inl a :: st) σ Q := by
  intro p e R s m args below meth c H locs k' n' ls C Ws Wd S hl
  have hz : -2147483648 ≤ (0 : Int) ∧ (0 : Int) ≤ 2147483647 := by omega
  refine lv_if_eq C.1 C.2.1 hd ht (fun h => kt ?_ p e R s m args below meth c H locs k' n' ls C Ws Wd S hl) (fun h => kf ?_ p e R s m args below meth c H locs k' n' ls C Ws Wd S hl) <;>
    (try rw [qI_0] at h) <;> (first | simpa only [qI_eq ha hz, qI_lt ha hz, qI_le ha hz, qI_lt hz ha, qI_le hz ha, ne_eq, gt_iff_lt, ge_iff_le] using h)
theorem q_icmpeq {off : Int} {tgt : Nat} (hd : decode y.2.1 pc = .ok (.if_icmp .eq off, 3)) (ht : (pc : Int) + off = (tgt : Int)) (ha : -2147483648 ≤ a ∧ a ≤ 2147483647) (hb : -2147483648 ≤ b ∧ b ≤ 2147483647) (kt : a = b → qE G y d tgt L st σ Q) (kf : ¬ (a = b) → qE G y d (pc + 3) L st σ Q) : qE G y d pc L (.inl b :: .inl a :: st) σ Q := by
  intro p e R s m args below meth c H locs k' n' ls C Ws Wd S hl
  refine lv_icmp_eq C.1 C.2.1 hd ht (fun h => kt ?_ p e R s m args below meth c H locs k' n' ls C Ws Wd S hl) (fun h => kf ?_ p e R s m args below meth c H locs k' n' ls C Ws Wd S hl) <;>
    simpa only [qI_eq ha hb, qI_lt ha hb, qI_le ha hb, qI_lt hb ha, qI_le hb ha, ne_eq, gt_iff_lt, ge_iff_le] using h
theorem q_ifne {off : Int} {tgt : Nat} (hd : decode y.2.1 pc = .ok (.ifCond .ne off, 3)) (ht : (pc : Int) + off = (tgt : Int)) (ha : -2147483648 ≤ a ∧ a ≤ 2147483647) (kt : a ≠ 0 → qE G y d tgt L st σ Q) (kf : a = 0 → qE G y d (pc + 3) L st σ Q) : qE G y d pc L (.inl a :: st) σ Q := by
  intro p e R s m args below meth c H locs k' n' ls C Ws Wd S hl
  have hz : -2147483648 ≤ (0 : Int) ∧ (0 : Int) ≤ 2147483647 := by omega
  refine lv_if_ne C.1 C.2.1 hd ht (fun h => kt ?_ p e R s m args below meth c H locs k' n' ls C Ws Wd S hl) (fun h => kf ?_ p e R s m args below meth c H locs k' n' ls C Ws Wd S hl) <;>
    (try rw [qI_0] at h) <;> (first | simpa only [qI_eq ha hz, qI_lt ha hz, qI_le ha hz, qI_lt hz ha, qI_le hz ha, ne_eq, gt_iff_lt, ge_iff_le] using h)
theorem q_icmpne {off : Int} {tgt : Nat} (hd : decode y.2.1 pc = .ok (.if_icmp .ne off, 3)) (ht : (pc : Int) + off = (tgt : Int)) (ha : -2147483648 ≤ a ∧ a ≤ 2147483647) (hb : -2147483648 ≤ b ∧ b ≤ 2147483647) (kt : a ≠ b → qE G y d tgt L st σ Q) (kf : a = b → qE G y d (pc + 3) L st σ Q) : qE G y d pc L (.inl b :: .inl a :: st) σ Q := by
  intro p e R s m args below meth c H locs k' n' ls C Ws Wd S hl
  refine lv_icmp_ne C.1 C.2.1 hd ht (fun h => kt ?_ p e R s m args below meth c H locs k' n' ls C Ws Wd S hl) (fun h => kf ?_ p e R s m args below meth c H locs k' n' ls C Ws Wd S hl) <;>
    simpa only [qI_eq ha hb, qI_lt ha hb, qI_le ha hb, qI_lt hb ha, qI_le hb ha, ne_eq, gt_iff_lt, ge_iff_le] using h
theorem q_iflt {off : Int} {tgt : Nat} (hd : decode y.2.1 pc = .ok (.ifCond .lt off, 3)) (ht : (pc : Int) + off = (tgt : Int)) (ha : -2147483648 ≤ a ∧ a ≤ 2147483647) (kt : a < 0 → qE G y d tgt L st σ Q) (kf : ¬ (a < 0) → qE G y d (pc + 3) L st σ Q) : qE G y d pc L (.inl a :: st) σ Q := by
  intro p e R s m args below meth c H locs k' n' ls C Ws Wd S hl
  have hz : -2147483648 ≤ (0 : Int) ∧ (0 : Int) ≤ 2147483647 := by omega
  refine lv_if_lt C.1 C.2.1 hd ht (fun h => kt ?_ p e R s m args below meth c H locs k' n' ls C Ws Wd S hl) (fun h => kf ?_ p e R s m args below meth c H locs k' n' ls C Ws Wd S hl) <;>
    (try rw [qI_0] at h) <;> (first | simpa only [qI_eq ha hz, qI_lt ha hz, qI_le ha hz, qI_lt hz ha, qI_le hz ha, ne_eq, gt_iff_lt, ge_iff_le] using h)
theorem q_icmplt {off : Int} {tgt : Nat} (hd : decode y.2.1 pc = .ok (.if_icmp .lt off, 3)) (ht : (pc : Int) + off = (tgt : Int)) (ha : -2147483648 ≤ a ∧ a ≤ 2147483647) (hb : -2147483648 ≤ b ∧ b ≤ 2147483647) (kt : a < b → qE G y d tgt L st σ Q) (kf : ¬ (a < b) → qE G y d (pc + 3) L st σ Q) : qE G y d pc L (.inl b :: .inl a :: st) σ Q := by
  intro p e R s m args below meth c H locs k' n' ls C Ws Wd S hl
  refine lv_icmp_lt C.1 C.2.1 hd ht (fun h => kt ?_ p e R s m args below meth c H locs k' n' ls C Ws Wd S hl) (fun h => kf ?_ p e R s m args below meth c H locs k' n' ls C Ws Wd S hl) <;>
    simpa only [qI_eq ha hb, qI_lt ha hb, qI_le ha hb, qI_lt hb ha, qI_le hb ha, ne_eq, gt_iff_lt, ge_iff_le] using h
theorem q_ifge {off : Int} {tgt : Nat} (hd : decode y.2.1 pc = .ok (.ifCond .ge off, 3)) (ht : (pc : Int) + off = (tgt : Int)) (ha : -2147483648 ≤ a ∧ a ≤ 2147483647) (kt : 0 ≤ a → qE G y d tgt L st σ Q) (kf : ¬ (0 ≤ a) → qE G y d (pc + 3) L st σ Q) : qE G y d pc L (.inl a :: st) σ Q := by
  intro p e R s m args below meth c H locs k' n' ls C Ws Wd S hl
  have hz : -2147483648 ≤ (0 : Int) ∧ (0 : Int) ≤ 2147483647 := by omega
  refine lv_if_ge C.1 C.2.1 hd ht (fun h => kt ?_ p e R s m args below meth c H locs k' n' ls C Ws Wd S hl) (fun h => kf ?_ p e R s m args below meth c H locs k' n' ls C Ws Wd S hl) <;>
    (try rw [qI_0] at h) <;> (first | simpa only [qI_eq ha hz, qI_lt ha hz, qI_le ha hz, qI_lt hz ha, qI_le hz ha, ne_eq, gt_iff_lt, ge_iff_le] using h)
theorem q_icmpge {off : Int} {tgt : Nat} (hd : decode y.2.1 pc = .ok (.if_icmp .ge off, 3)) (ht : (pc : Int) + off = (tgt : Int)) (ha : -2147483648 ≤ a ∧ a ≤ 2147483647) (hb : -2147483648 ≤ b ∧ b ≤ 2147483647) (kt : b ≤ a → qE G y d tgt L st σ Q) (kf : ¬ (b ≤ a) → qE G y d (pc + 3) L st σ Q) : qE G y d pc L (.inl b :: .inl a :: st) σ Q := by
  intro p e R s m args below meth c H locs k' n' ls C Ws Wd S hl
  refine lv_icmp_ge C.1 C.2.1 hd ht (fun h => kt ?_ p e R s m args below meth c H locs k' n' ls C Ws Wd S hl) (fun h => kf ?_ p e R s m args below meth c H locs k' n' ls C Ws Wd S hl) <;>
    simpa only [qI_eq ha hb, qI_lt ha hb, qI_le ha hb, qI_lt hb ha, qI_le hb ha, ne_eq, gt_iff_lt, ge_iff_le] using h
theorem q_ifgt {off : Int} {tgt : Nat} (hd : decode y.2.1 pc = .ok (.ifCond .gt off, 3)) (ht : (pc : Int) + off = (tgt : Int)) (ha : -2147483648 ≤ a ∧ a ≤ 2147483647) (kt : 0 < a → qE G y d tgt L st σ Q) (kf : ¬ (0 < a) → qE G y d (pc + 3) L st σ Q) : qE G y d pc L (.inl a :: st) σ Q := by
  intro p e R s m args below meth c H locs k' n' ls C Ws Wd S hl
  have hz : -2147483648 ≤ (0 : Int) ∧ (0 : Int) ≤ 2147483647 := by omega
  refine lv_if_gt C.1 C.2.1 hd ht (fun h => kt ?_ p e R s m args below meth c H locs k' n' ls C Ws Wd S hl) (fun h => kf ?_ p e R s m args below meth c H locs k' n' ls C Ws Wd S hl) <;>
    (try rw [qI_0] at h) <;> (first | simpa only [qI_eq ha hz, qI_lt ha hz, qI_le ha hz, qI_lt hz ha, qI_le hz ha, ne_eq, gt_iff_lt, ge_iff_le] using h)
theorem q_icmpgt {off : Int} {tgt : Nat} (hd : decode y.2.1 pc = .ok (.if_icmp .gt off, 3)) (ht : (pc : Int) + off = (tgt : Int)) (ha : -2147483648 ≤ a ∧ a ≤ 2147483647) (hb : -2147483648 ≤ b ∧ b ≤ 2147483647) (kt : b < a → qE G y d tgt L st σ Q) (kf : ¬ (b < a) → qE G y d (pc + 3) L st σ Q) : qE G y d pc L (.inl b :: .inl a :: st) σ Q := by
  intro p e R s m args below meth c H locs k' n' ls C Ws Wd S hl
  refine lv_icmp_gt C.1 C.2.1 hd ht (fun h => kt ?_ p e R s m args below meth c H locs k' n' ls C Ws Wd S hl) (fun h => kf ?_ p e R s m args below meth c H locs k' n' ls C Ws Wd S hl) <;>
    simpa only [qI_eq ha hb, qI_lt ha hb, qI_le ha hb, qI_lt hb ha, qI_le hb ha, ne_eq, gt_iff_lt, ge_iff_le] using h
theorem q_ifle {off : Int} {tgt : Nat} (hd : decode y.2.1 pc = .ok (.ifCond .le off, 3)) (ht : (pc : Int) + off = (tgt : Int)) (ha : -2147483648 ≤ a ∧ a ≤ 2147483647) (kt : a ≤ 0 → qE G y d tgt L st σ Q) (kf : ¬ (a ≤ 0) → qE G y d (pc + 3) L st σ Q) : qE G y d pc L (.inl a :: st) σ Q := by
  intro p e R s m args below meth c H locs k' n' ls C Ws Wd S hl
  have hz : -2147483648 ≤ (0 : Int) ∧ (0 : Int) ≤ 2147483647 := by omega
  refine lv_if_le C.1 C.2.1 hd ht (fun h => kt ?_ p e R s m args below meth c H locs k' n' ls C Ws Wd S hl) (fun h => kf ?_ p e R s m args below meth c H locs k' n' ls C Ws Wd S hl) <;>
    (try rw [qI_0] at h) <;> (first | simpa only [qI_eq ha hz, qI_lt ha hz, qI_le ha hz, qI_lt hz ha, qI_le hz ha, ne_eq, gt_iff_lt, ge_iff_le] using h)
theorem q_icmple {off : Int} {tgt : Nat} (hd : decode y.2.1 pc = .ok (.if_icmp .le off, 3)) (ht : (pc : Int) + off = (tgt : Int)) (ha : -2147483648 ≤ a ∧ a ≤ 2147483647) (hb : -2147483648 ≤ b ∧ b ≤ 2147483647) (kt : a ≤ b → qE G y d tgt L st σ Q) (kf : ¬ (a ≤ b) → qE G y d (pc + 3) L st σ Q) : qE G y d pc L (.inl b :: .inl a :: st) σ Q := by
  intro p e R s m args below meth c H locs k' n' ls C Ws Wd S hl
  refine lv_icmp_le C.1 C.2.1 hd ht (fun h => kt ?_ p e R s m args below meth c H locs k' n' ls C Ws Wd S hl) (fun h => kf ?_ p e R s m args below meth c H locs k' n' ls C Ws Wd S hl) <;>
    simpa only [qI_eq ha hb, qI_lt ha hb, qI_le ha hb, qI_lt hb ha, qI_le hb ha, ne_eq, gt_iff_lt, ge_iff_le] using h
theorem q_ifeqb {off : Int} {tgt : Nat} {c : Prop} [Decidable c] (hd : decode y.2.1 pc = .ok (.ifCond .eq off, 3)) (ht : (pc : Int) + off = (tgt : Int)) (kt : ¬ c → qE G y d tgt L st σ Q) (kf : c → qE G y d (pc + 3) L st σ Q) : qE G y d pc L (.inl (bi c) :: st) σ Q := by
  by_cases hc : c
  · rw [show bi c = 1 from if_pos hc]
    exact q_ifeq hd ht (by omega) (fun h => absurd h (by omega)) (fun _ => kf hc)
  · rw [show bi c = 0 from if_neg hc]
    exact q_ifeq hd ht (by omega) (fun _ => kt hc) (fun h => absurd rfl h)
theorem q_ifneb {off : Int} {tgt : Nat} {c : Prop} [Decidable c] (hd : decode y.2.1 pc = .ok (.ifCond .ne off, 3)) (ht : (pc : Int) + off = (tgt : Int)) (kt : c → qE G y d tgt L st σ Q) (kf : ¬ c → qE G y d (pc + 3) L st σ Q) : qE G y d pc L (.inl (bi c) :: st) σ Q := by
  by_cases hc : c
  · rw [show bi c = 1 from if_pos hc]
    exact q_ifne hd ht (by omega) (fun _ => kt hc) (fun h => absurd h (by omega))
  · rw [show bi c = 0 from if_neg hc]
    exact q_ifne hd ht (by omega) (fun h => absurd rfl h) (fun _ => kf hc)
end QB
