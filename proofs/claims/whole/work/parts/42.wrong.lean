/-! ===== wrong: what is to be ===== -/
abbrev bt (s i : Int) : Prop := qand (qshr s i) 1 = 1
def wW (p : Int) (f : Int → Int) (s : Nat) : Nat → Int
  | 0 => 1
  | i + 1 => if mDone f i then wW p f s i else if bt s i then wW p f s i * (10 - p) else wW p f s i * p
def wG (f : Int → Int) (s : Nat) : Nat → Int → Int
  | 0 => f
  | i + 1 => if bt s i then mDo (wG f s i) i else wG f s i
abbrev wok (f : Int → Int) (s m : Nat) : Prop := ∀ i : Nat, i < m → bt s i → ¬ mDone f i
def sB (p : Int) (f : Int → Int) (m : Nat) : Nat → Int
  | 0 => 0
  | k + 1 => sB p f m k + if wok f k m then wW p f k m else 0
def sA (p : Int) (f : Int → Int) (m : Nat) : Nat → Int
  | 0 => 0
  | k + 1 => sA p f m k + if wok f k m ∧ mLevel (wG f k m) then wW p f k m else 0
def wC (f : Int → Int) : Nat → Nat
  | 0 => 0
  | i + 1 => wC f i + if mDone f i then 0 else 1
theorem bt_t {s i : Nat} (hs : s < 128) (hi : i < 7) : (bt s i ↔ Nat.testBit s i = true) := (wL5 ⟨s, hs⟩ ⟨i, hi⟩).2
theorem bt_01 {s i : Nat} (hs : s < 128) (hi : i < 7) : qand (qshr s i) 1 = 0 ∨ qand (qshr s i) 1 = 1 := (wL5 ⟨s, hs⟩ ⟨i, hi⟩).1
theorem p2 {m : Nat} (h : m ≤ 7) : 2 ^ m ≤ 128 := Nat.pow_le_pow_right (n := 2) (by omega) h
theorem bt_hi {s m i : Nat} (hm : m ≤ 7) (hs : s < 2 ^ m) (hi : m ≤ i) (h7 : i < 7) : ¬ bt s i := by
  have := p2 hm
  rw [bt_t (by omega) h7, Nat.testBit_lt_two_pow (Nat.lt_of_lt_of_le hs (Nat.pow_le_pow_right (by omega) hi))]
  simp
theorem bt_add_lt {s m i : Nat} (hm : m < 7) (hs : s < 2 ^ m) (hi : i < m) : (bt (2 ^ m + s : Nat) i ↔ bt s i) := by
  have h1 := p2 (m := m + 1) (by omega)
  rw [Nat.pow_succ] at h1
  rw [bt_t (by omega) (by omega), bt_t (by omega) (by omega), Nat.testBit_two_pow_add_gt hi]
theorem bt_add_eq {s m : Nat} (hm : m < 7) (hs : s < 2 ^ m) : bt (2 ^ m + s : Nat) m := by
  have h1 := p2 (m := m + 1) (by omega)
  rw [Nat.pow_succ] at h1
  rw [bt_t (by omega) (by omega), Nat.testBit_two_pow_add_eq, Nat.testBit_lt_two_pow hs]
  rfl
theorem wW_c {p : Int} {f : Int → Int} {s t : Nat} : ∀ m : Nat, (∀ i : Nat, i < m → (bt s i ↔ bt t i)) → wW p f s m = wW p f t m
  | 0, _ => rfl
  | m + 1, h => by
    unfold wW
    rw [wW_c m (fun i hi => h i (by omega))]
    split
    · rfl
    · by_cases c : bt s m
      · rw [if_pos c, if_pos ((h m (by omega)).mp c)]
      · rw [if_neg c, if_neg (fun z => c ((h m (by omega)).mpr z))]
theorem wok_lo {f : Int → Int} {s m : Nat} (hm : m < 7) (hs : s < 2 ^ m) : (wok f s (m + 1) ↔ wok f s m) := by
  constructor
  · exact fun h i hi => h i (by omega)
  · intro h i hi hb
    by_cases c : i = m
    · exact absurd (c ▸ hb) (bt_hi (by omega) hs (Nat.le_refl m) hm)
    · exact h i (by omega) hb
theorem wok_hi {f : Int → Int} {s m : Nat} (hm : m < 7) (hs : s < 2 ^ m) : (wok f (2 ^ m + s) (m + 1) ↔ wok f s m ∧ ¬ mDone f m) := by
  constructor
  · intro h
    exact ⟨fun i hi hb => h i (by omega) ((bt_add_lt hm hs hi).mpr hb), h m (by omega) (bt_add_eq hm hs)⟩
  · intro h i hi hb
    by_cases c : i = m
    · rw [c]; exact h.2
    · exact h.1 i (by omega) ((bt_add_lt hm hs (by omega)).mp hb)
theorem sB_lo {p : Int} {f : Int → Int} {m : Nat} (hm : m < 7) : ∀ k : Nat, k ≤ 2 ^ m → sB p f (m + 1) k = (if mDone f m then 1 else p) * sB p f m k
  | 0, _ => by show (0 : Int) = _ * 0; rw [Int.mul_zero]
  | k + 1, hk => by
    show sB p f (m + 1) k + _ = _ * (sB p f m k + _)
    rw [sB_lo hm k (by omega), Int.mul_add]
    congr 1
    by_cases c : wok f k m
    · rw [if_pos c, if_pos ((wok_lo hm (by omega)).mpr c)]
      show (if mDone f m then wW p f k m else if bt k m then wW p f k m * (10 - p) else wW p f k m * p) = _
      rw [if_neg (bt_hi (by omega) (show k < 2 ^ m by omega) (Nat.le_refl m) hm)]
      split
      · rw [Int.one_mul]
      · rw [Int.mul_comm]
    · rw [if_neg c, if_neg (fun z => c ((wok_lo hm (by omega)).mp z)), Int.mul_zero]
theorem sB_hi {p : Int} {f : Int → Int} {m : Nat} (hm : m < 7) : ∀ k : Nat, k ≤ 2 ^ m → sB p f (m + 1) (2 ^ m + k) = sB p f (m + 1) (2 ^ m) + (if mDone f m then 0 else 10 - p) * sB p f m k
  | 0, _ => by show sB p f (m + 1) (2 ^ m) = _ + _ * 0; rw [Int.mul_zero, Int.add_zero]
  | k + 1, hk => by
    show sB p f (m + 1) (2 ^ m + k) + (if wok f (2 ^ m + k) (m + 1) then wW p f (2 ^ m + k) (m + 1) else 0) = _ + _ * (sB p f m k + _)
    rw [sB_hi hm k (by omega), Int.mul_add, Int.add_assoc]
    congr 1
    congr 1
    by_cases c : wok f k m
    · by_cases c2 : mDone f m
      · rw [if_pos c2, Int.zero_mul, if_neg (fun z => ((wok_hi hm (show k < 2 ^ m by omega)).mp z).2 c2)]
      · rw [if_neg c2, if_pos c, if_pos ((wok_hi hm (by omega)).mpr ⟨c, c2⟩)]
        show (if mDone f m then wW p f (2 ^ m + k) m else if bt (2 ^ m + k : Nat) m then wW p f (2 ^ m + k) m * (10 - p) else wW p f (2 ^ m + k) m * p) = _
        rw [if_neg c2, if_pos (bt_add_eq hm (by omega)), wW_c (t := k) m (fun i hi => bt_add_lt hm (by omega) hi), Int.mul_comm]
    · rw [if_neg c, if_neg (fun z => c ((wok_hi hm (by omega)).mp z).1), Int.mul_zero]
theorem sB_all {p : Int} {f : Int → Int} : ∀ m : Nat, m ≤ 7 → sB p f m (2 ^ m) = 10 ^ wC f m
  | 0, _ => by
    show (0 : Int) + (if wok f 0 0 then wW p f 0 0 else 0) = _
    rw [if_pos (fun i hi => absurd hi (by omega))]
    rfl
  | m + 1, hm => by
    have ih := sB_all (p := p) (f := f) m (by omega)
    rw [show 2 ^ (m + 1) = 2 ^ m + 2 ^ m by rw [Nat.pow_succ]; omega, sB_hi (by omega) _ (Nat.le_refl _), sB_lo (by omega) _ (Nat.le_refl _), ih]
    show _ = (10 : Int) ^ (wC f m + if mDone f m then 0 else 1)
    split
    · rw [Int.one_mul, Int.zero_mul, Int.add_zero]; rfl
    · rw [Int.pow_succ, ← Int.add_mul, Int.mul_comm, show p + (10 - p) = 10 by omega]
theorem wW_in {p : Int} (hp : 0 ≤ p ∧ p ≤ 10) (f : Int → Int) (s : Nat) : ∀ m, 0 ≤ wW p f s m
  | 0 => by show (0 : Int) ≤ 1; omega
  | m + 1 => by
    have ih := wW_in hp f s m
    unfold wW
    split
    · exact ih
    · split
      · exact Int.mul_nonneg ih (by omega)
      · exact Int.mul_nonneg ih (by omega)
theorem sA_in {p : Int} (hp : 0 ≤ p ∧ p ≤ 10) (f : Int → Int) (m : Nat) : ∀ k, 0 ≤ sA p f m k ∧ sA p f m k ≤ sB p f m k
  | 0 => ⟨Int.le_refl _, Int.le_refl _⟩
  | k + 1 => by
    have ih := sA_in hp f m k
    have hw := wW_in hp f k m
    show 0 ≤ sA p f m k + _ ∧ sA p f m k + _ ≤ sB p f m k + _
    by_cases c : wok f k m
    · rw [if_pos c]
      split <;> omega
    · rw [if_neg c, if_neg (fun z => c z.1)]
      omega
theorem sB_mono {p : Int} (hp : 0 ≤ p ∧ p ≤ 10) (f : Int → Int) (m : Nat) {k : Nat} : ∀ j, sB p f m k ≤ sB p f m (k + j)
  | 0 => Int.le_refl _
  | j + 1 => by
    have ih := sB_mono hp f m (k := k) j
    have hw := wW_in hp f (k + j) m
    show _ ≤ sB p f m (k + j) + (if wok f (k + j) m then wW p f (k + j) m else 0)
    split <;> omega
theorem wC_in (f : Int → Int) : ∀ m, wC f m ≤ m
  | 0 => Nat.le_refl _
  | m + 1 => by have := wC_in f m; unfold wC; split <;> omega
theorem sB_in {p : Int} (hp : 0 ≤ p ∧ p ≤ 10) (f : Int → Int) {m : Nat} (hm : m ≤ 7) {k : Nat} (hk : k ≤ 2 ^ m) : sB p f m k ≤ 10000000 := by
  have h := sB_mono hp f m (k := k) (2 ^ m - k)
  rw [show k + (2 ^ m - k) = 2 ^ m by omega, sB_all m hm] at h
  have h2 : (10 : Int) ^ wC f m ≤ 10 ^ 7 := by
    have := Nat.pow_le_pow_right (n := 10) (by omega) (Nat.le_trans (wC_in f m) hm)
    have e : ∀ n : Nat, ((10 : Int) ^ n) = ((10 ^ n : Nat) : Int) := fun n => by rw [Int.natCast_pow]; rfl
    rw [e, e]
    exact Int.ofNat_le.mpr this
  have : (10 : Int) ^ 7 = 10000000 := by decide
  omega
theorem sB_pos {p : Int} (f : Int → Int) {m : Nat} (hm : m ≤ 7) : 1 ≤ sB p f m (2 ^ m) := by
  rw [sB_all m hm]
  have e : ∀ n : Nat, ((10 : Int) ^ n) = ((10 ^ n : Nat) : Int) := fun n => by rw [Int.natCast_pow]; rfl
  rw [e]
  have := Nat.pow_pos (n := wC f m) (show 0 < 10 by omega)
  omega
/-- the class's, the reference's test of a set -/
theorem wok_c {f : Int → Int} (hR : Row f) {s : Nat} (hs : s < 2 ^ (f 5).toNat) : (qand s (f 6) = 0 ↔ wok f s (f 5).toNat) := by
  have h5 := hR.de
  have h6 := hR.2.2.2.1
  have h7 := pow7 h5
  have h8 := p2 (m := (f 5).toNat) (by omega)
  have h := wL1 ⟨s, by omega⟩ ⟨(f 6).toNat, by omega⟩
  simp only at h
  rw [show (((f 6).toNat : Nat) : Int) = f 6 by omega] at h
  rw [h]
  constructor
  · exact fun z i hi hb => z ⟨i, by omega⟩ hb
  · intro z i hb
    by_cases c : (i : Nat) < (f 5).toNat
    · exact z i c hb
    · exact absurd hb (bt_hi (by omega) hs (by omega) i.2)
def wO (f : Int → Int) : Int := qand (qshl 1 (f 5) - 1) (qxor (f 6) (-1))
theorem wO_in {f : Int → Int} (hR : Row f) : (0 ≤ wO f ∧ wO f < 2 ^ (f 5).toNat) ∧ ∀ i : Nat, i < 7 → ((qand (qshr (wO f) i) 1 = 0 ∨ qand (qshr (wO f) i) 1 = 1) ∧ (bt (wO f) i ↔ i < (f 5).toNat ∧ ¬ mDone f i)) := by
  have h5 := hR.de
  have h6 := hR.2.2.2.1
  have h7 := pow7 h5
  have h := wL3 ⟨(f 5).toNat, by omega⟩ ⟨(f 6).toNat, by omega⟩
  simp only at h
  rw [show (((f 6).toNat : Nat) : Int) = f 6 by omega, show (((f 5).toNat : Nat) : Int) = f 5 by omega] at h
  refine ⟨h.1, fun i hi => ⟨?_, h.2 ⟨i, hi⟩⟩⟩
  have h1 : 0 ≤ wO f ∧ wO f < 2 ^ (f 5).toNat := h.1
  have := bt_01 (s := (wO f).toNat) (i := i) (by omega) hi
  rw [show (((wO f).toNat : Nat) : Int) = wO f by omega] at this
  exact this
theorem wok_m {f : Int → Int} (hR : Row f) {s : Nat} (hs : s < 2 ^ (f 5).toNat) : (qand s (qxor (wO f) (-1)) = 0 ↔ wok f s (f 5).toNat) ∧ (wok f s (f 5).toNat → (s : Int) ≤ wO f) := by
  have h5 := hR.de
  have h7 := pow7 h5
  have h8 := p2 (m := (f 5).toNat) (by omega)
  have hO := wO_in hR
  have h := wL2 ⟨s, by omega⟩ ⟨(wO f).toNat, by omega⟩
  simp only at h
  rw [show (((wO f).toNat : Nat) : Int) = wO f by omega] at h
  have e : (qand s (qxor (wO f) (-1)) = 0 ↔ wok f s (f 5).toNat) := by
    rw [h.1]
    constructor
    · exact fun z i hi hb => ((hO.2 i (by omega)).2.mp (z ⟨i, by omega⟩ hb)).2
    · intro z i hb
      by_cases c : (i : Nat) < (f 5).toNat
      · exact (hO.2 i i.2).2.mpr ⟨c, z i c hb⟩
      · exact absurd hb (bt_hi (by omega) hs (by omega) i.2)
  exact ⟨e, fun z => by have := h.2 (e.mpr z); omega⟩
theorem wG_row {f : Int → Int} (hR : Row f) (s : Nat) : ∀ m : Nat, (m : Int) ≤ f 5 → Row (wG f s m) ∧ ∀ j, j < 6 ∨ 12 < j → wG f s m j = f j
  | 0, _ => ⟨hR, fun _ _ => rfl⟩
  | m + 1, hm => by
    obtain ⟨ih, i2⟩ := wG_row hR s m (by omega)
    have h5 := i2 5 (by omega)
    unfold wG
    split
    · exact ⟨mDo_row ih (by omega) (by omega), fun j hj => (mDo_o ih (by omega) (by omega) hj).trans (i2 j hj)⟩
    · exact ⟨ih, i2⟩
abbrev wA (f : Int → Int) (p : Int) : Int := sA p f (f 5).toNat (2 ^ (f 5).toNat)
abbrev wB (f : Int → Int) (p : Int) : Int := sB p f (f 5).toNat (2 ^ (f 5).toNat)
def s_wrong (A : qA) (p w : Int) : Int × qA := (if A.1 0 = 1 then (if (0 ≤ p ∧ p ≤ 10) ∧ (0 ≤ w ∧ w ≤ 1) then (if w = 0 then wA A.1 p else wB A.1 p) / (Nat.gcd (wB A.1 p).toNat (wA A.1 p).toNat : Int) else -1000001) else -1000002, A)
