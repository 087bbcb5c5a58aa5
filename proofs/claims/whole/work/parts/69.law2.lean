/-! ===== the law: its loop ===== -/
section LW
variable {G : qGl} {d : Nat} {σ : qM} {A : qA}
theorem l_loop (hL : G.2.2.2.2.1 ≤ 384) : ∀ (n : Nat) (i : Int) (σ : qM) (A : qA), CR σ A → MR σ A → AV A → 0 ≤ i → (G.2.2.2.2.1 : Int) ≤ i + n → i ≤ 400 → qE G mL_law (d + 15) 18 [(3, vi i), (2, vr 82), (1, vr 0), (0, vr 96)] [] σ (ri fun r _ => r = 1) := by
  intro n
  induction n using Nat.strongRecOn with
  | ind n ih =>
  intro i σ A hC hM hV h0 hn h4
  by_cases c : i + 6 ≤ G.2.2.2.2.1
  · have hk : ∀ σ' A', CR σ' A' → MR σ' A' → AV A' → qE G mL_law (d + 15) 1382 [(3, vi i), (2, vr 82), (1, vr 0), (0, vr 96)] [] σ' (ri fun r _ => r = 1) := by
      intro σ' A' hC' hM' hV'
      refine q_iinc (pc := 1382) dL_law_1382 rfl (Nat.le_of_ble_eq_true rfl) ?_
      refine q_goto (pc := 1385) (tgt := 18) dL_law_1385 (by decide) ?_
      exact q_locs _ [0, 1, 2, 3] rfl (ih (n - 6) (by omega) (i + 6) σ' A' hC' hM' hV' (by omega) (by omega) (by omega))
    have hr := sb (Int32.ofInt (G.2.2.2.2.2 i.toNat).toInt &&& Int32.ofInt 63)
    have hq : ∀ z, z = qand (G.2.2.2.2.2 i.toNat).toInt 63 → -2147483648 ≤ z ∧ z ≤ 2147483647 := fun z e => by rw [e]; exact hr
    refine q_iload_n (pc := 18) dL_law_18 rfl ?_
    refine q_aload_n (pc := 19) dL_law_19 rfl ?_
    refine q_slen (pc := 20) dL_law_20 ?_
    refine q_bipush (pc := 21) dL_law_21 (by decide +kernel) ?_
    refine q_isub (pc := 23) dL_law_23 ?_
    refine q_icmpgt (pc := 24) (tgt := 1388) dL_law_24 (by decide) (by omega) (by omega) (fun h => absurd h (by omega)) (fun h24 => ?_)
    refine q_aload_n (pc := 27) dL_law_27 rfl ?_
    refine q_iload_n (pc := 28) dL_law_28 rfl ?_
    refine q_sald (pc := 29) dL_law_29 (by omega) (by omega) ?_
    refine q_bipush (pc := 30) dL_law_30 (by decide +kernel) ?_
    refine q_iand (pc := 32) dL_law_32 ?_
    have hz := hq _ rfl
    generalize qand (G.2.2.2.2.2 i.toNat).toInt 63 = z at hz ⊢
    rcases (show z = 0 ∨ z = 1 ∨ z = 2 ∨ z = 3 ∨ z = 4 ∨ z = 5 ∨ z = 6 ∨ z = 7 ∨ z = 8 ∨ z = 9 ∨ z = 10 ∨ z = 11 ∨ z = 12 ∨ z = 13 ∨ z = 14 ∨ z = 15 ∨ z = 16 ∨ z = 17 ∨ z = 18 ∨ z = 19 ∨ z = 20 ∨ z = 21 ∨ z = 22 ∨ z = 23 ∨ z = 24 ∨ z = 25 ∨ z = 26 ∨ z = 27 ∨ z = 28 ∨ z = 29 ∨ z = 30 ∨ z = 31 ∨ z = 32 ∨ z = 33 ∨ z = 34 ∨ z = 35 ∨ z = 36 ∨ z = 37 ∨ z = 38 ∨ (z < 0 ∨ 38 < z) by omega) with hs33 | hs33 | hs33 | hs33 | hs33 | hs33 | hs33 | hs33 | hs33 | hs33 | hs33 | hs33 | hs33 | hs33 | hs33 | hs33 | hs33 | hs33 | hs33 | hs33 | hs33 | hs33 | hs33 | hs33 | hs33 | hs33 | hs33 | hs33 | hs33 | hs33 | hs33 | hs33 | hs33 | hs33 | hs33 | hs33 | hs33 | hs33 | hs33 | hs33
    · refine q_tsIn (pc := 33) (off := 171) (tgt := 204) dL_law_33 (by omega) (by omega) (by omega) (by rw [hs33]; rfl) (by decide) ?_
      exact l_row hC hM hV ⟨h0, c⟩ hL hk
    · refine q_tsIn (pc := 33) (off := 214) (tgt := 247) dL_law_33 (by omega) (by omega) (by omega) (by rw [hs33]; rfl) (by decide) ?_
      exact l_set hC hM hV ⟨h0, c⟩ hL hk
    · refine q_tsIn (pc := 33) (off := 257) (tgt := 290) dL_law_33 (by omega) (by omega) (by omega) (by rw [hs33]; rfl) (by decide) ?_
      exact l_copy hC hM hV ⟨h0, c⟩ hL hk
    · refine q_tsIn (pc := 33) (off := 320) (tgt := 353) dL_law_33 (by omega) (by omega) (by omega) (by rw [hs33]; rfl) (by decide) ?_
      exact l_drop hC hM hV ⟨h0, c⟩ hL hk
    · refine q_tsIn (pc := 33) (off := 343) (tgt := 376) dL_law_33 (by omega) (by omega) (by omega) (by rw [hs33]; rfl) (by decide) ?_
      exact l_feed hC hM hV ⟨h0, c⟩ hL hk
    · refine q_tsIn (pc := 33) (off := 366) (tgt := 399) dL_law_33 (by omega) (by omega) (by omega) (by rw [hs33]; rfl) (by decide) ?_
      exact l_site hC hM hV ⟨h0, c⟩ hL hk
    · refine q_tsIn (pc := 33) (off := 379) (tgt := 412) dL_law_33 (by omega) (by omega) (by omega) (by rw [hs33]; rfl) (by decide) ?_
      exact l_fault hC hM hV ⟨h0, c⟩ hL hk
    · refine q_tsIn (pc := 33) (off := 392) (tgt := 425) dL_law_33 (by omega) (by omega) (by omega) (by rw [hs33]; rfl) (by decide) ?_
      exact l_undo hC hM hV ⟨h0, c⟩ hL hk
    · refine q_tsIn (pc := 33) (off := 405) (tgt := 438) dL_law_33 (by omega) (by omega) (by omega) (by rw [hs33]; rfl) (by decide) ?_
      exact l_hours hC hM hV ⟨h0, c⟩ hL hk
    · refine q_tsIn (pc := 33) (off := 428) (tgt := 461) dL_law_33 (by omega) (by omega) (by omega) (by rw [hs33]; rfl) (by decide) ?_
      exact l_perform hC hM hV ⟨h0, c⟩ hL hk
    · refine q_tsIn (pc := 33) (off := 451) (tgt := 484) dL_law_33 (by omega) (by omega) (by omega) (by rw [hs33]; rfl) (by decide) ?_
      exact l_board hC hM hV ⟨h0, c⟩ hL hk
    · refine q_tsIn (pc := 33) (off := 474) (tgt := 507) dL_law_33 (by omega) (by omega) (by omega) (by rw [hs33]; rfl) (by decide) ?_
      exact l_amount hC hM hV ⟨h0, c⟩ hL hk
    · refine q_tsIn (pc := 33) (off := 507) (tgt := 540) dL_law_33 (by omega) (by omega) (by omega) (by rw [hs33]; rfl) (by decide) ?_
      exact l_jack hC hM hV ⟨h0, c⟩ hL hk
    · refine q_tsIn (pc := 33) (off := 540) (tgt := 573) dL_law_33 (by omega) (by omega) (by omega) (by rw [hs33]; rfl) (by decide) ?_
      exact l_foot hC hM hV ⟨h0, c⟩ hL hk
    · refine q_tsIn (pc := 33) (off := 573) (tgt := 606) dL_law_33 (by omega) (by omega) (by omega) (by rw [hs33]; rfl) (by decide) ?_
      exact l_deed hC hM hV ⟨h0, c⟩ hL hk
    · refine q_tsIn (pc := 33) (off := 606) (tgt := 639) dL_law_33 (by omega) (by omega) (by omega) (by rw [hs33]; rfl) (by decide) ?_
      exact l_lean hC hM hV ⟨h0, c⟩ hL hk
    · refine q_tsIn (pc := 33) (off := 629) (tgt := 662) dL_law_33 (by omega) (by omega) (by omega) (by rw [hs33]; rfl) (by decide) ?_
      exact l_ahead hC hM hV ⟨h0, c⟩ hL hk
    · refine q_tsIn (pc := 33) (off := 662) (tgt := 695) dL_law_33 (by omega) (by omega) (by omega) (by rw [hs33]; rfl) (by decide) ?_
      exact l_leanAhead hC hM hV ⟨h0, c⟩ hL hk
    · refine q_tsIn (pc := 33) (off := 695) (tgt := 728) dL_law_33 (by omega) (by omega) (by omega) (by rw [hs33]; rfl) (by decide) ?_
      exact l_lasts hC hM hV ⟨h0, c⟩ hL hk
    · refine q_tsIn (pc := 33) (off := 708) (tgt := 741) dL_law_33 (by omega) (by omega) (by omega) (by rw [hs33]; rfl) (by decide) ?_
      exact l_first hC hM hV ⟨h0, c⟩ hL hk
    · refine q_tsIn (pc := 33) (off := 721) (tgt := 754) dL_law_33 (by omega) (by omega) (by omega) (by rw [hs33]; rfl) (by decide) ?_
      exact l_attempt hC hM hV ⟨h0, c⟩ hL hk
    · refine q_tsIn (pc := 33) (off := 744) (tgt := 777) dL_law_33 (by omega) (by omega) (by omega) (by rw [hs33]; rfl) (by decide) ?_
      exact l_best hC hM hV ⟨h0, c⟩ hL hk
    · refine q_tsIn (pc := 33) (off := 767) (tgt := 800) dL_law_33 (by omega) (by omega) (by omega) (by rw [hs33]; rfl) (by decide) ?_
      exact l_plan hC hM hV ⟨h0, c⟩ hL hk
    · refine q_tsIn (pc := 33) (off := 800) (tgt := 833) dL_law_33 (by omega) (by omega) (by omega) (by rw [hs33]; rfl) (by decide) ?_
      exact l_boards hC hM hV ⟨h0, c⟩ hL hk
    · refine q_tsIn (pc := 33) (off := 833) (tgt := 866) dL_law_33 (by omega) (by omega) (by omega) (by rw [hs33]; rfl) (by decide) ?_
      exact l_lift hC hM hV ⟨h0, c⟩ hL hk
    · refine q_tsIn (pc := 33) (off := 856) (tgt := 889) dL_law_33 (by omega) (by omega) (by omega) (by rw [hs33]; rfl) (by decide) ?_
      exact l_worst hC hM hV ⟨h0, c⟩ hL hk
    · refine q_tsIn (pc := 33) (off := 889) (tgt := 922) dL_law_33 (by omega) (by omega) (by omega) (by rw [hs33]; rfl) (by decide) ?_
      exact l_who hC hM hV ⟨h0, c⟩ hL hk
    · refine q_tsIn (pc := 33) (off := 952) (tgt := 985) dL_law_33 (by omega) (by omega) (by omega) (by rw [hs33]; rfl) (by decide) ?_
      exact l_feet hC hM hV ⟨h0, c⟩ hL hk
    · refine q_tsIn (pc := 33) (off := 1015) (tgt := 1048) dL_law_33 (by omega) (by omega) (by omega) (by rw [hs33]; rfl) (by decide) ?_
      exact l_amounts hC hM hV ⟨h0, c⟩ hL hk
    · refine q_tsIn (pc := 33) (off := 1078) (tgt := 1111) dL_law_33 (by omega) (by omega) (by omega) (by rw [hs33]; rfl) (by decide) ?_
      exact l_wrong hC hM hV ⟨h0, c⟩ hL hk
    · refine q_tsIn (pc := 33) (off := 1112) (tgt := 1145) dL_law_33 (by omega) (by omega) (by omega) (by rw [hs33]; rfl) (by decide) ?_
      exact l_drawn hC hM hV ⟨h0, c⟩ hL hk
    · refine q_tsIn (pc := 33) (off := 1155) (tgt := 1188) dL_law_33 (by omega) (by omega) (by omega) (by rw [hs33]; rfl) (by decide) ?_
      exact l_image hC hM hV ⟨h0, c⟩ hL hk
    · refine q_tsIn (pc := 33) (off := 1178) (tgt := 1211) dL_law_33 (by omega) (by omega) (by omega) (by rw [hs33]; rfl) (by decide) ?_
      exact l_restore hC hM hV ⟨h0, c⟩ hL hk
    · refine q_tsIn (pc := 33) (off := 1201) (tgt := 1234) dL_law_33 (by omega) (by omega) (by omega) (by rw [hs33]; rfl) (by decide) ?_
      exact l_kind hC hM hV ⟨h0, c⟩ hL hk
    · refine q_tsIn (pc := 33) (off := 1224) (tgt := 1257) dL_law_33 (by omega) (by omega) (by omega) (by rw [hs33]; rfl) (by decide) ?_
      exact l_as hC hM hV ⟨h0, c⟩ hL hk
    · refine q_tsIn (pc := 33) (off := 1257) (tgt := 1290) dL_law_33 (by omega) (by omega) (by omega) (by rw [hs33]; rfl) (by decide) ?_
      exact l_ask hC hM hV ⟨h0, c⟩ hL hk
    · refine q_tsIn (pc := 33) (off := 1290) (tgt := 1323) dL_law_33 (by omega) (by omega) (by omega) (by rw [hs33]; rfl) (by decide) ?_
      exact l_trace hC hM hV ⟨h0, c⟩ hL hk
    · refine q_tsIn (pc := 33) (off := 1313) (tgt := 1346) dL_law_33 (by omega) (by omega) (by omega) (by rw [hs33]; rfl) (by decide) ?_
      exact l_count hC hM hV ⟨h0, c⟩ hL hk
    · refine q_tsIn (pc := 33) (off := 1336) (tgt := 1369) dL_law_33 (by omega) (by omega) (by omega) (by rw [hs33]; rfl) (by decide) ?_
      exact l_status hC hM hV ⟨h0, c⟩ hL hk
    · refine q_tsOut (pc := 33) (tgt := 1382) dL_law_33 (by omega) hs33 (by decide) ?_
      exact hk σ A hC hM hV
  · skip
    refine q_iload_n (pc := 18) dL_law_18 rfl ?_
    refine q_aload_n (pc := 19) dL_law_19 rfl ?_
    refine q_slen (pc := 20) dL_law_20 ?_
    refine q_bipush (pc := 21) dL_law_21 (by decide +kernel) ?_
    refine q_isub (pc := 23) dL_law_23 ?_
    refine q_icmpgt (pc := 24) (tgt := 1388) dL_law_24 (by decide) (by omega) (by omega) (fun h24 => ?_) (fun h => absurd h (by omega))
    refine q_iconst (pc := 1388) dL_law_1388 ?_
    refine q_rz (pc := 1389) dL_law_1389 rfl (by first | exact bi_01 _ | omega) ?_
    rfl
end LW
