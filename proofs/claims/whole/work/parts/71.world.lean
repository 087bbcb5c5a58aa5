/-! ===== the first world, cell by cell ===== -/
set_option maxRecDepth 20000 in
set_option maxHeartbeats 8000000 in
theorem wld_at {cI cz c3 c4 c5 : ClassId} {h7 h8 b : Nat} {q7 q8 tb : Nat → Nat} (k : Nat) (hk : k < 96) : (([(h7, .inr (7, [.ref (q7 0), .ref (q7 12), .ref (q7 14), .ref (q7 21), .ref (q7 28), .ref (q7 43), .ref (q7 45), .ref (q7 79), .int (Int32.ofInt 0), .int (Int32.ofInt 0)])), (q7 0, .inr (3, [.ref (q7 1), .ref (q7 2), .ref (q7 3)])), (q7 1, rA c5 8 (fun j => [q7 4, q7 5, q7 6, q7 7, q7 8, q7 9, q7 10, q7 11][j]?)), (q7 4, iA cI 40 z0), (q7 5, iA cI 40 z0), (q7 6, iA cI 40 z0), (q7 7, iA cI 40 z0), (q7 8, iA cI 40 z0), (q7 9, iA cI 40 z0), (q7 10, iA cI 40 z0), (q7 11, iA cI 40 z0), (q7 2, iA cI 8 lnF), (q7 3, iA cI 8 z0), (q7 12, .inr (6, [.ref (q7 13), .int (Int32.ofInt 0), .int (Int32.ofInt 0), .int (Int32.ofInt 0)])), (q7 13, iA cI 120 z0), (q7 14, .inr (4, [.int (Int32.ofInt 0), .int (Int32.ofInt 0), .int (Int32.ofInt 0), .int (Int32.ofInt 1), .int (Int32.ofInt 0), .int (Int32.ofInt 0), .int (Int32.ofInt 0), .ref (q7 15), .ref (q7 16), .ref (q7 17), .ref (q7 18)])), (q7 15, iA cI 7 z0), (q7 16, iA cI 7 z0), (q7 17, iA cI 7 z0), (q7 18, .inr (5, [.ref (q7 19), .ref (q7 20)])), (q7 19, iA cI 3 z0), (q7 20, iA cI 3 z0), (q7 21, .inr (4, [.int (Int32.ofInt 0), .int (Int32.ofInt 0), .int (Int32.ofInt 0), .int (Int32.ofInt 1), .int (Int32.ofInt 0), .int (Int32.ofInt 0), .int (Int32.ofInt 0), .ref (q7 22), .ref (q7 23), .ref (q7 24), .ref (q7 25)])), (q7 22, iA cI 7 z0), (q7 23, iA cI 7 z0), (q7 24, iA cI 7 z0), (q7 25, .inr (5, [.ref (q7 26), .ref (q7 27)])), (q7 26, iA cI 3 z0), (q7 27, iA cI 3 z0), (q7 28, rA c4 2 (fun j => [q7 29, q7 36][j]?)), (q7 29, .inr (4, [.int (Int32.ofInt 0), .int (Int32.ofInt 0), .int (Int32.ofInt 0), .int (Int32.ofInt 1), .int (Int32.ofInt 0), .int (Int32.ofInt 0), .int (Int32.ofInt 0), .ref (q7 30), .ref (q7 31), .ref (q7 32), .ref (q7 33)])), (q7 30, iA cI 7 z0), (q7 31, iA cI 7 z0), (q7 32, iA cI 7 z0), (q7 33, .inr (5, [.ref (q7 34), .ref (q7 35)])), (q7 34, iA cI 3 z0), (q7 35, iA cI 3 z0), (q7 36, .inr (4, [.int (Int32.ofInt 0), .int (Int32.ofInt 0), .int (Int32.ofInt 0), .int (Int32.ofInt 1), .int (Int32.ofInt 0), .int (Int32.ofInt 0), .int (Int32.ofInt 0), .ref (q7 37), .ref (q7 38), .ref (q7 39), .ref (q7 40)])), (q7 37, iA cI 7 z0), (q7 38, iA cI 7 z0), (q7 39, iA cI 7 z0), (q7 40, .inr (5, [.ref (q7 41), .ref (q7 42)])), (q7 41, iA cI 3 z0), (q7 42, iA cI 3 z0), (q7 43, .inr (0, [.ref (q7 44), .int (Int32.ofInt 0), .int (Int32.ofInt 0)])), (q7 44, iA cI 360 z0), (q7 45, .inr (2, [.ref (q7 46), .ref (q7 49), .ref (q7 50), .ref (q7 51), .ref (q7 54)])), (q7 46, .inr (5, [.ref (q7 47), .ref (q7 48)])), (q7 47, iA cI 3 z0), (q7 48, iA cI 3 z0), (q7 49, iA cI 7 z0), (q7 50, iA cI 3 z0), (q7 51, .inr (5, [.ref (q7 52), .ref (q7 53)])), (q7 52, iA cI 3 z0), (q7 53, iA cI 3 z0), (q7 54, rA c3 8 (fun j => [q7 55, q7 58, q7 61, q7 64, q7 67, q7 70, q7 73, q7 76][j]?)), (q7 55, .inr (5, [.ref (q7 56), .ref (q7 57)])), (q7 56, iA cI 3 z0), (q7 57, iA cI 3 z0), (q7 58, .inr (5, [.ref (q7 59), .ref (q7 60)])), (q7 59, iA cI 3 z0), (q7 60, iA cI 3 z0), (q7 61, .inr (5, [.ref (q7 62), .ref (q7 63)])), (q7 62, iA cI 3 z0), (q7 63, iA cI 3 z0), (q7 64, .inr (5, [.ref (q7 65), .ref (q7 66)])), (q7 65, iA cI 3 z0), (q7 66, iA cI 3 z0), (q7 67, .inr (5, [.ref (q7 68), .ref (q7 69)])), (q7 68, iA cI 3 z0), (q7 69, iA cI 3 z0), (q7 70, .inr (5, [.ref (q7 71), .ref (q7 72)])), (q7 71, iA cI 3 z0), (q7 72, iA cI 3 z0), (q7 73, .inr (5, [.ref (q7 74), .ref (q7 75)])), (q7 74, iA cI 3 z0), (q7 75, iA cI 3 z0), (q7 76, .inr (5, [.ref (q7 77), .ref (q7 78)])), (q7 77, iA cI 3 z0), (q7 78, iA cI 3 z0), (q7 79, .inr (1, [.ref (q7 80), .int (Int32.ofInt 0)])), (q7 80, iA cI 16 z0)] : va_W) ++ [(h8, .inr (8, [.int (Int32.ofInt 0), .int (Int32.ofInt 0), .ref (q8 0), .ref (q8 1), .ref (q8 2), .ref (q8 3), .ref (q8 4), .ref (q8 5), .ref (q8 6), .int (Int32.ofInt 0), .ref (q8 7), .int (Int32.ofInt 0), .int (Int32.ofInt 0), .int (Int32.ofInt 0), .int (Int32.ofInt 0), .int (Int32.ofInt 0), .int (Int32.ofInt 0), .int (Int32.ofInt 0), .int (Int32.ofInt 0), .ref (q8 8), .ref (q8 9), .ref (q8 10), .ref (q8 11), .ref (q8 12), .int (Int32.ofInt 0)])), (q8 0, iA cI 8 lnF), (q8 1, iA cI 8 z0), (q8 2, iA cI 320 z0), (q8 3, iA cI 34 z0), (q8 4, iA cI 34 z0), (q8 5, iA cI 34 z0), (q8 6, iA cI 816 z0), (q8 7, iA cI 120 z0), (q8 8, iA cI 272 z0), (q8 9, iA cI 8 z0), (q8 10, iA cz 2 z0), (q8 11, iA cI 68 z0), (q8 12, iA cI 16 z0)])[plF k]? = some (adF h7 h8 b q7 q8 tb k, qcell (cAF cI cz c3 c4 c5) (adF h7 h8 b q7 q8 tb) σ0 k) := by
  match k, hk with
  | 0, _ => rfl
  | 1, _ => rfl
  | 2, _ => exact congrArg (fun f => some (q7 1, rA c5 8 f)) (rf_8 (ad := adF h7 h8 b q7 q8 tb) (a := 5) (b := 6) (c := 7) (d := 8) (e := 9) (f := 10) (g := 11) (h := 12))
  | 3, _ => rfl
  | 4, _ => rfl
  | 5, _ => rfl
  | 6, _ => rfl
  | 7, _ => rfl
  | 8, _ => rfl
  | 9, _ => rfl
  | 10, _ => rfl
  | 11, _ => rfl
  | 12, _ => rfl
  | 13, _ => rfl
  | 14, _ => rfl
  | 15, _ => rfl
  | 16, _ => rfl
  | 17, _ => rfl
  | 18, _ => rfl
  | 19, _ => rfl
  | 20, _ => rfl
  | 21, _ => rfl
  | 22, _ => rfl
  | 23, _ => rfl
  | 24, _ => rfl
  | 25, _ => rfl
  | 26, _ => rfl
  | 27, _ => rfl
  | 28, _ => rfl
  | 29, _ => exact congrArg (fun f => some (q7 28, rA c4 2 f)) (rf_2 (ad := adF h7 h8 b q7 q8 tb) (a := 30) (b := 37))
  | 30, _ => rfl
  | 31, _ => rfl
  | 32, _ => rfl
  | 33, _ => rfl
  | 34, _ => rfl
  | 35, _ => rfl
  | 36, _ => rfl
  | 37, _ => rfl
  | 38, _ => rfl
  | 39, _ => rfl
  | 40, _ => rfl
  | 41, _ => rfl
  | 42, _ => rfl
  | 43, _ => rfl
  | 44, _ => rfl
  | 45, _ => rfl
  | 46, _ => rfl
  | 47, _ => rfl
  | 48, _ => rfl
  | 49, _ => rfl
  | 50, _ => rfl
  | 51, _ => rfl
  | 52, _ => rfl
  | 53, _ => rfl
  | 54, _ => rfl
  | 55, _ => exact congrArg (fun f => some (q7 54, rA c3 8 f)) (rf_8 (ad := adF h7 h8 b q7 q8 tb) (a := 56) (b := 59) (c := 62) (d := 65) (e := 68) (f := 71) (g := 74) (h := 77))
  | 56, _ => rfl
  | 57, _ => rfl
  | 58, _ => rfl
  | 59, _ => rfl
  | 60, _ => rfl
  | 61, _ => rfl
  | 62, _ => rfl
  | 63, _ => rfl
  | 64, _ => rfl
  | 65, _ => rfl
  | 66, _ => rfl
  | 67, _ => rfl
  | 68, _ => rfl
  | 69, _ => rfl
  | 70, _ => rfl
  | 71, _ => rfl
  | 72, _ => rfl
  | 73, _ => rfl
  | 74, _ => rfl
  | 75, _ => rfl
  | 76, _ => rfl
  | 77, _ => rfl
  | 78, _ => rfl
  | 79, _ => rfl
  | 80, _ => rfl
  | 81, _ => rfl
  | 82, _ => rfl
  | 83, _ => rfl
  | 84, _ => rfl
  | 85, _ => rfl
  | 86, _ => rfl
  | 87, _ => rfl
  | 88, _ => rfl
  | 89, _ => rfl
  | 90, _ => rfl
  | 91, _ => rfl
  | 92, _ => rfl
  | 93, _ => rfl
  | 94, _ => rfl
  | 95, _ => rfl
  | n + 96, h => exact absurd h (by omega)
theorem wld0 {D : va_G} {cI : ClassId} {A : Nat → Prop} {h7 h8 : Nat} {w7 w8 : va_W} {t7 t8 : bT} {H : Heap} {s : State} (hw7 : wX7 cI h7 w7 t7) (hw8 : wX8 cI h8 w8 t8) (P : va_P D vwCl (w7 ++ w8) H) (DD : va_D A (w7 ++ w8)) (K1 : va_K D vwCl [(cI, .int)] s) (K2 : va_K D vwCl (t7 ++ t8) s) (b : Nat) (tb : Nat → Nat) :
    ∃ (ad : Nat → Nat) (cA : Nat → ClassId), va_P D vwCl (qwld cA ad σ0) H ∧ va_K D vwCl (qtys cA) s ∧ (∀ i j, i < 96 → j < 96 → ad i = ad j → i = j) ∧ (∀ k, k < 96 → A (ad k)) ∧ ad 0 = h7 ∧ ad 82 = h8 ∧ ad 96 = b ∧ ∀ i, ad (97 + i) = tb i := by
  obtain ⟨q7, c3, c4, c5, f4, rfl, rfl, rfl⟩ := hw7
  obtain ⟨q8, cz, rfl, rfl⟩ := hw8
  have key := fun k hk => wld_at (cI := cI) (cz := cz) (c3 := c3) (c4 := c4) (c5 := c5) (h7 := h7) (h8 := h8) (b := b) (q7 := q7) (q8 := q8) (tb := tb) k hk
  refine ⟨adF h7 h8 b q7 q8 tb, cAF cI cz c3 c4 c5, P.by plF (fun k x hx => ?_), (K1.app K2).sub [0, 4, 3, 2, 1] rfl, fun i j hi hj e => plF_inj (DD.1 _ _ _ _ (key i hi) (key j hj) e), fun k hk => DD.2 _ _ (key k hk), rfl, rfl, rfl, fun i => ?_⟩
  · obtain ⟨hk, rfl⟩ := qwld_inv hx
    exact key k hk
  · unfold adF
    rw [if_neg (by omega), if_neg (by omega), if_neg (by omega), if_neg (by omega), if_neg (by omega), Nat.add_sub_cancel_left]
