/-! ===== contracts' ends: an int, a long, a cell, nothing ===== -/
def ri (P : Int → qM → Prop) : Option qV → qM → Prop := fun v σ => ∃ r, v = some (vi r) ∧ P r σ
def rl (P : Int → qM → Prop) : Option qV → qM → Prop := fun v σ => ∃ r, v = some (vl r) ∧ P r σ
def rr (P : Nat → qM → Prop) : Option qV → qM → Prop := fun v σ => ∃ r, v = some (vr r) ∧ P r σ
def rv (P : qM → Prop) : Option qV → qM → Prop := fun v σ => v = none ∧ P σ
section QW
variable {G : qGl} {y z : qY} {d pc : Nat} {L : List (Nat × qV)} {st : List qV} {σ : qM} {Q : Option qV → qM → Prop}
theorem q_gI {idx ci j k : Nat} {fs : List (Option Nat)} (i : Int) (hd : decode y.2.1 pc = .ok (.getfield idx, 3)) (hF : qF y.1.cls idx ci j) (hs : qSh k = (0, ci, fs)) (hj : fs[j]? = some none) (hi : (j : Int) = i) (kk : qE G y d (pc + 3) L (.inl (σ k i) :: st) σ Q) : qE G y d pc L (.inr (.inr k) :: st) σ Q := by
  subst hi
  exact q_getI hd hF hs hj kk
theorem q_pI {idx ci j k : Nat} {fs : List (Option Nat)} {a : Int} (i : Int) (hd : decode y.2.1 pc = .ok (.putfield idx, 3)) (hF : qFw y.1.cls idx ci j false) (hs : qSh k = (0, ci, fs)) (hj : fs[j]? = some none) (hi : (j : Int) = i) (kk : qE G y d (pc + 3) L st (up σ k i a) Q) : qE G y d pc L (.inl a :: .inr (.inr k) :: st) σ Q := by
  subst hi
  exact q_putx hd hF hs hj (fun h => by cases h) kk
theorem q_pZ {idx ci j k : Nat} {fs : List (Option Nat)} {a : Int} (i : Int) (hd : decode y.2.1 pc = .ok (.putfield idx, 3)) (hF : qFw y.1.cls idx ci j true) (hs : qSh k = (0, ci, fs)) (hj : fs[j]? = some none) (hi : (j : Int) = i) (hb : a = 0 ∨ a = 1) (kk : qE G y d (pc + 3) L st (up σ k i a) Q) : qE G y d pc L (.inl a :: .inr (.inr k) :: st) σ Q := by
  subst hi
  exact q_putx hd hF hs hj (fun _ => hb) kk
theorem q_ri {a : Int} {P : Int → qM → Prop} (hd : decode y.2.1 pc = .ok (.ireturn, 1)) (hr : y.2.2.2 = some .int) (h : P a σ) : qE G y d pc L [.inl a] σ (ri P) := q_iret hd hr ⟨a, rfl, h⟩
theorem q_rz {a : Int} {P : Int → qM → Prop} (hd : decode y.2.1 pc = .ok (.ireturn, 1)) (hr : y.2.2.2 = some .boolean) (h01 : a = 0 ∨ a = 1) (h : P a σ) : qE G y d pc L [.inl a] σ (ri P) := q_zret hd hr h01 ⟨a, rfl, h⟩
theorem q_rl {a : Int} {P : Int → qM → Prop} (hd : decode y.2.1 pc = .ok (.lreturn, 1)) (hr : y.2.2.2 = some .long) (h : P a σ) : qE G y d pc L [.inr (.inl a)] σ (rl P) := q_lret hd hr ⟨a, rfl, h⟩
theorem q_rr {k : Nat} {nm : String} {P : Nat → qM → Prop} (hd : decode y.2.1 pc = .ok (.areturn, 1)) (hr : y.2.2.2 = some (.object nm)) (h : P k σ) : qE G y d pc L [.inr (.inr k)] σ (rr P) := q_aret hd hr ⟨k, rfl, h⟩
theorem q_rv {P : qM → Prop} (hd : decode y.2.1 pc = .ok (.return_, 1)) (hr : y.2.2.2 = none) (h : P σ) : qE G y d pc L [] σ (rv P) := q_vret hd hr ⟨rfl, h⟩
theorem q_iincK {i : Nat} {n z v : Int} (hd : decode y.2.1 pc = .ok (.iinc i n, 3)) (h : qget L i = some (.inl z)) (hn : i < y.2.2.1) (hv : z + n = v) (k : qE G y d (pc + 3) (qst1 L i (.inl v)) st σ Q) : qE G y d pc L st σ Q := by
  subst hv
  exact q_iinc hd h hn k
theorem bi_01 (c : Prop) [Decidable c] : bi c = 0 ∨ bi c = 1 := by
  unfold bi
  split
  · exact Or.inr rfl
  · exact Or.inl rfl
theorem q_V0i {idx k0 ci : Nat} {fs : List (Option Nat)}  {P : Int → qM → Prop} (hd : decode y.2.1 pc = .ok (.invokevirtual idx, 3)) (hV : qV1 y.1.cls idx z 0) (hs : qSh k0 = (0, ci, fs)) (hc : (vwCl[ci]?).map (fun q => q.1) = some z.1.cls) (hcat : (st.map qcat).sum ≤ 8) (hsz : ((vr k0 :: []).map qcat).sum ≤ z.2.2.1)
    (hE : qE G z d 0 (qarg 0 (vr k0 :: [])) [] σ (ri P)) (kk : ∀ (r : Int) (σ1 : qM), P r σ1 → qE G y (d + 1) (pc + 3) L (vi r :: st) σ1 Q) : qE G y (d + 1) pc L (vr k0 :: st) σ Q :=
  q_callV (As := []) hd hV hs hc rfl rfl hcat hsz (q_mono (fun v σ' h => by obtain ⟨r, rfl, hp⟩ := h; exact kk r σ' hp) hE)
theorem q_V0l {idx k0 ci : Nat} {fs : List (Option Nat)}  {P : Int → qM → Prop} (hd : decode y.2.1 pc = .ok (.invokevirtual idx, 3)) (hV : qV1 y.1.cls idx z 0) (hs : qSh k0 = (0, ci, fs)) (hc : (vwCl[ci]?).map (fun q => q.1) = some z.1.cls) (hcat : (st.map qcat).sum ≤ 8) (hsz : ((vr k0 :: []).map qcat).sum ≤ z.2.2.1)
    (hE : qE G z d 0 (qarg 0 (vr k0 :: [])) [] σ (rl P)) (kk : ∀ (r : Int) (σ1 : qM), P r σ1 → qE G y (d + 1) (pc + 3) L (vl r :: st) σ1 Q) : qE G y (d + 1) pc L (vr k0 :: st) σ Q :=
  q_callV (As := []) hd hV hs hc rfl rfl hcat hsz (q_mono (fun v σ' h => by obtain ⟨r, rfl, hp⟩ := h; exact kk r σ' hp) hE)
theorem q_V0r {idx k0 ci : Nat} {fs : List (Option Nat)}  {P : Nat → qM → Prop} (hd : decode y.2.1 pc = .ok (.invokevirtual idx, 3)) (hV : qV1 y.1.cls idx z 0) (hs : qSh k0 = (0, ci, fs)) (hc : (vwCl[ci]?).map (fun q => q.1) = some z.1.cls) (hcat : (st.map qcat).sum ≤ 8) (hsz : ((vr k0 :: []).map qcat).sum ≤ z.2.2.1)
    (hE : qE G z d 0 (qarg 0 (vr k0 :: [])) [] σ (rr P)) (kk : ∀ (r : Nat) (σ1 : qM), P r σ1 → qE G y (d + 1) (pc + 3) L (vr r :: st) σ1 Q) : qE G y (d + 1) pc L (vr k0 :: st) σ Q :=
  q_callV (As := []) hd hV hs hc rfl rfl hcat hsz (q_mono (fun v σ' h => by obtain ⟨r, rfl, hp⟩ := h; exact kk r σ' hp) hE)
theorem q_V0v {idx k0 ci : Nat} {fs : List (Option Nat)}  {P : qM → Prop} (hd : decode y.2.1 pc = .ok (.invokevirtual idx, 3)) (hV : qV1 y.1.cls idx z 0) (hs : qSh k0 = (0, ci, fs)) (hc : (vwCl[ci]?).map (fun q => q.1) = some z.1.cls) (hcat : (st.map qcat).sum ≤ 8) (hsz : ((vr k0 :: []).map qcat).sum ≤ z.2.2.1)
    (hE : qE G z d 0 (qarg 0 (vr k0 :: [])) [] σ (rv P)) (kk : ∀ σ1 : qM, P σ1 → qE G y (d + 1) (pc + 3) L st σ1 Q) : qE G y (d + 1) pc L (vr k0 :: st) σ Q :=
  q_callV (As := []) hd hV hs hc rfl rfl hcat hsz (q_mono (fun v σ' h => by obtain ⟨rfl, hp⟩ := h; exact kk σ' hp) hE)
theorem q_V1i {idx k0 ci : Nat} {fs : List (Option Nat)} {a1 : qV} {P : Int → qM → Prop} (hd : decode y.2.1 pc = .ok (.invokevirtual idx, 3)) (hV : qV1 y.1.cls idx z 1) (hs : qSh k0 = (0, ci, fs)) (hc : (vwCl[ci]?).map (fun q => q.1) = some z.1.cls) (hcat : (st.map qcat).sum ≤ 8) (hsz : ((vr k0 :: [a1]).map qcat).sum ≤ z.2.2.1)
    (hE : qE G z d 0 (qarg 0 (vr k0 :: [a1])) [] σ (ri P)) (kk : ∀ (r : Int) (σ1 : qM), P r σ1 → qE G y (d + 1) (pc + 3) L (vi r :: st) σ1 Q) : qE G y (d + 1) pc L (a1 :: vr k0 :: st) σ Q :=
  q_callV (As := [a1]) hd hV hs hc rfl rfl hcat hsz (q_mono (fun v σ' h => by obtain ⟨r, rfl, hp⟩ := h; exact kk r σ' hp) hE)
theorem q_V1l {idx k0 ci : Nat} {fs : List (Option Nat)} {a1 : qV} {P : Int → qM → Prop} (hd : decode y.2.1 pc = .ok (.invokevirtual idx, 3)) (hV : qV1 y.1.cls idx z 1) (hs : qSh k0 = (0, ci, fs)) (hc : (vwCl[ci]?).map (fun q => q.1) = some z.1.cls) (hcat : (st.map qcat).sum ≤ 8) (hsz : ((vr k0 :: [a1]).map qcat).sum ≤ z.2.2.1)
    (hE : qE G z d 0 (qarg 0 (vr k0 :: [a1])) [] σ (rl P)) (kk : ∀ (r : Int) (σ1 : qM), P r σ1 → qE G y (d + 1) (pc + 3) L (vl r :: st) σ1 Q) : qE G y (d + 1) pc L (a1 :: vr k0 :: st) σ Q :=
  q_callV (As := [a1]) hd hV hs hc rfl rfl hcat hsz (q_mono (fun v σ' h => by obtain ⟨r, rfl, hp⟩ := h; exact kk r σ' hp) hE)
theorem q_V1r {idx k0 ci : Nat} {fs : List (Option Nat)} {a1 : qV} {P : Nat → qM → Prop} (hd : decode y.2.1 pc = .ok (.invokevirtual idx, 3)) (hV : qV1 y.1.cls idx z 1) (hs : qSh k0 = (0, ci, fs)) (hc : (vwCl[ci]?).map (fun q => q.1) = some z.1.cls) (hcat : (st.map qcat).sum ≤ 8) (hsz : ((vr k0 :: [a1]).map qcat).sum ≤ z.2.2.1)
    (hE : qE G z d 0 (qarg 0 (vr k0 :: [a1])) [] σ (rr P)) (kk : ∀ (r : Nat) (σ1 : qM), P r σ1 → qE G y (d + 1) (pc + 3) L (vr r :: st) σ1 Q) : qE G y (d + 1) pc L (a1 :: vr k0 :: st) σ Q :=
  q_callV (As := [a1]) hd hV hs hc rfl rfl hcat hsz (q_mono (fun v σ' h => by obtain ⟨r, rfl, hp⟩ := h; exact kk r σ' hp) hE)
theorem q_V1v {idx k0 ci : Nat} {fs : List (Option Nat)} {a1 : qV} {P : qM → Prop} (hd : decode y.2.1 pc = .ok (.invokevirtual idx, 3)) (hV : qV1 y.1.cls idx z 1) (hs : qSh k0 = (0, ci, fs)) (hc : (vwCl[ci]?).map (fun q => q.1) = some z.1.cls) (hcat : (st.map qcat).sum ≤ 8) (hsz : ((vr k0 :: [a1]).map qcat).sum ≤ z.2.2.1)
    (hE : qE G z d 0 (qarg 0 (vr k0 :: [a1])) [] σ (rv P)) (kk : ∀ σ1 : qM, P σ1 → qE G y (d + 1) (pc + 3) L st σ1 Q) : qE G y (d + 1) pc L (a1 :: vr k0 :: st) σ Q :=
  q_callV (As := [a1]) hd hV hs hc rfl rfl hcat hsz (q_mono (fun v σ' h => by obtain ⟨rfl, hp⟩ := h; exact kk σ' hp) hE)
theorem q_V2i {idx k0 ci : Nat} {fs : List (Option Nat)} {a1 a2 : qV} {P : Int → qM → Prop} (hd : decode y.2.1 pc = .ok (.invokevirtual idx, 3)) (hV : qV1 y.1.cls idx z 2) (hs : qSh k0 = (0, ci, fs)) (hc : (vwCl[ci]?).map (fun q => q.1) = some z.1.cls) (hcat : (st.map qcat).sum ≤ 8) (hsz : ((vr k0 :: [a1, a2]).map qcat).sum ≤ z.2.2.1)
    (hE : qE G z d 0 (qarg 0 (vr k0 :: [a1, a2])) [] σ (ri P)) (kk : ∀ (r : Int) (σ1 : qM), P r σ1 → qE G y (d + 1) (pc + 3) L (vi r :: st) σ1 Q) : qE G y (d + 1) pc L (a2 :: a1 :: vr k0 :: st) σ Q :=
  q_callV (As := [a1, a2]) hd hV hs hc rfl rfl hcat hsz (q_mono (fun v σ' h => by obtain ⟨r, rfl, hp⟩ := h; exact kk r σ' hp) hE)
theorem q_V2l {idx k0 ci : Nat} {fs : List (Option Nat)} {a1 a2 : qV} {P : Int → qM → Prop} (hd : decode y.2.1 pc = .ok (.invokevirtual idx, 3)) (hV : qV1 y.1.cls idx z 2) (hs : qSh k0 = (0, ci, fs)) (hc : (vwCl[ci]?).map (fun q => q.1) = some z.1.cls) (hcat : (st.map qcat).sum ≤ 8) (hsz : ((vr k0 :: [a1, a2]).map qcat).sum ≤ z.2.2.1)
    (hE : qE G z d 0 (qarg 0 (vr k0 :: [a1, a2])) [] σ (rl P)) (kk : ∀ (r : Int) (σ1 : qM), P r σ1 → qE G y (d + 1) (pc + 3) L (vl r :: st) σ1 Q) : qE G y (d + 1) pc L (a2 :: a1 :: vr k0 :: st) σ Q :=
  q_callV (As := [a1, a2]) hd hV hs hc rfl rfl hcat hsz (q_mono (fun v σ' h => by obtain ⟨r, rfl, hp⟩ := h; exact kk r σ' hp) hE)
theorem q_V2r {idx k0 ci : Nat} {fs : List (Option Nat)} {a1 a2 : qV} {P : Nat → qM → Prop} (hd : decode y.2.1 pc = .ok (.invokevirtual idx, 3)) (hV : qV1 y.1.cls idx z 2) (hs : qSh k0 = (0, ci, fs)) (hc : (vwCl[ci]?).map (fun q => q.1) = some z.1.cls) (hcat : (st.map qcat).sum ≤ 8) (hsz : ((vr k0 :: [a1, a2]).map qcat).sum ≤ z.2.2.1)
    (hE : qE G z d 0 (qarg 0 (vr k0 :: [a1, a2])) [] σ (rr P)) (kk : ∀ (r : Nat) (σ1 : qM), P r σ1 → qE G y (d + 1) (pc + 3) L (vr r :: st) σ1 Q) : qE G y (d + 1) pc L (a2 :: a1 :: vr k0 :: st) σ Q :=
  q_callV (As := [a1, a2]) hd hV hs hc rfl rfl hcat hsz (q_mono (fun v σ' h => by obtain ⟨r, rfl, hp⟩ := h; exact kk r σ' hp) hE)
theorem q_V2v {idx k0 ci : Nat} {fs : List (Option Nat)} {a1 a2 : qV} {P : qM → Prop} (hd : decode y.2.1 pc = .ok (.invokevirtual idx, 3)) (hV : qV1 y.1.cls idx z 2) (hs : qSh k0 = (0, ci, fs)) (hc : (vwCl[ci]?).map (fun q => q.1) = some z.1.cls) (hcat : (st.map qcat).sum ≤ 8) (hsz : ((vr k0 :: [a1, a2]).map qcat).sum ≤ z.2.2.1)
    (hE : qE G z d 0 (qarg 0 (vr k0 :: [a1, a2])) [] σ (rv P)) (kk : ∀ σ1 : qM, P σ1 → qE G y (d + 1) (pc + 3) L st σ1 Q) : qE G y (d + 1) pc L (a2 :: a1 :: vr k0 :: st) σ Q :=
  q_callV (As := [a1, a2]) hd hV hs hc rfl rfl hcat hsz (q_mono (fun v σ' h => by obtain ⟨rfl, hp⟩ := h; exact kk σ' hp) hE)
theorem q_V3i {idx k0 ci : Nat} {fs : List (Option Nat)} {a1 a2 a3 : qV} {P : Int → qM → Prop} (hd : decode y.2.1 pc = .ok (.invokevirtual idx, 3)) (hV : qV1 y.1.cls idx z 3) (hs : qSh k0 = (0, ci, fs)) (hc : (vwCl[ci]?).map (fun q => q.1) = some z.1.cls) (hcat : (st.map qcat).sum ≤ 8) (hsz : ((vr k0 :: [a1, a2, a3]).map qcat).sum ≤ z.2.2.1)
    (hE : qE G z d 0 (qarg 0 (vr k0 :: [a1, a2, a3])) [] σ (ri P)) (kk : ∀ (r : Int) (σ1 : qM), P r σ1 → qE G y (d + 1) (pc + 3) L (vi r :: st) σ1 Q) : qE G y (d + 1) pc L (a3 :: a2 :: a1 :: vr k0 :: st) σ Q :=
  q_callV (As := [a1, a2, a3]) hd hV hs hc rfl rfl hcat hsz (q_mono (fun v σ' h => by obtain ⟨r, rfl, hp⟩ := h; exact kk r σ' hp) hE)
theorem q_V3l {idx k0 ci : Nat} {fs : List (Option Nat)} {a1 a2 a3 : qV} {P : Int → qM → Prop} (hd : decode y.2.1 pc = .ok (.invokevirtual idx, 3)) (hV : qV1 y.1.cls idx z 3) (hs : qSh k0 = (0, ci, fs)) (hc : (vwCl[ci]?).map (fun q => q.1) = some z.1.cls) (hcat : (st.map qcat).sum ≤ 8) (hsz : ((vr k0 :: [a1, a2, a3]).map qcat).sum ≤ z.2.2.1)
    (hE : qE G z d 0 (qarg 0 (vr k0 :: [a1, a2, a3])) [] σ (rl P)) (kk : ∀ (r : Int) (σ1 : qM), P r σ1 → qE G y (d + 1) (pc + 3) L (vl r :: st) σ1 Q) : qE G y (d + 1) pc L (a3 :: a2 :: a1 :: vr k0 :: st) σ Q :=
  q_callV (As := [a1, a2, a3]) hd hV hs hc rfl rfl hcat hsz (q_mono (fun v σ' h => by obtain ⟨r, rfl, hp⟩ := h; exact kk r σ' hp) hE)
theorem q_V3r {idx k0 ci : Nat} {fs : List (Option Nat)} {a1 a2 a3 : qV} {P : Nat → qM → Prop} (hd : decode y.2.1 pc = .ok (.invokevirtual idx, 3)) (hV : qV1 y.1.cls idx z 3) (hs : qSh k0 = (0, ci, fs)) (hc : (vwCl[ci]?).map (fun q => q.1) = some z.1.cls) (hcat : (st.map qcat).sum ≤ 8) (hsz : ((vr k0 :: [a1, a2, a3]).map qcat).sum ≤ z.2.2.1)
    (hE : qE G z d 0 (qarg 0 (vr k0 :: [a1, a2, a3])) [] σ (rr P)) (kk : ∀ (r : Nat) (σ1 : qM), P r σ1 → qE G y (d + 1) (pc + 3) L (vr r :: st) σ1 Q) : qE G y (d + 1) pc L (a3 :: a2 :: a1 :: vr k0 :: st) σ Q :=
  q_callV (As := [a1, a2, a3]) hd hV hs hc rfl rfl hcat hsz (q_mono (fun v σ' h => by obtain ⟨r, rfl, hp⟩ := h; exact kk r σ' hp) hE)
theorem q_V3v {idx k0 ci : Nat} {fs : List (Option Nat)} {a1 a2 a3 : qV} {P : qM → Prop} (hd : decode y.2.1 pc = .ok (.invokevirtual idx, 3)) (hV : qV1 y.1.cls idx z 3) (hs : qSh k0 = (0, ci, fs)) (hc : (vwCl[ci]?).map (fun q => q.1) = some z.1.cls) (hcat : (st.map qcat).sum ≤ 8) (hsz : ((vr k0 :: [a1, a2, a3]).map qcat).sum ≤ z.2.2.1)
    (hE : qE G z d 0 (qarg 0 (vr k0 :: [a1, a2, a3])) [] σ (rv P)) (kk : ∀ σ1 : qM, P σ1 → qE G y (d + 1) (pc + 3) L st σ1 Q) : qE G y (d + 1) pc L (a3 :: a2 :: a1 :: vr k0 :: st) σ Q :=
  q_callV (As := [a1, a2, a3]) hd hV hs hc rfl rfl hcat hsz (q_mono (fun v σ' h => by obtain ⟨rfl, hp⟩ := h; exact kk σ' hp) hE)
theorem q_V4i {idx k0 ci : Nat} {fs : List (Option Nat)} {a1 a2 a3 a4 : qV} {P : Int → qM → Prop} (hd : decode y.2.1 pc = .ok (.invokevirtual idx, 3)) (hV : qV1 y.1.cls idx z 4) (hs : qSh k0 = (0, ci, fs)) (hc : (vwCl[ci]?).map (fun q => q.1) = some z.1.cls) (hcat : (st.map qcat).sum ≤ 8) (hsz : ((vr k0 :: [a1, a2, a3, a4]).map qcat).sum ≤ z.2.2.1)
    (hE : qE G z d 0 (qarg 0 (vr k0 :: [a1, a2, a3, a4])) [] σ (ri P)) (kk : ∀ (r : Int) (σ1 : qM), P r σ1 → qE G y (d + 1) (pc + 3) L (vi r :: st) σ1 Q) : qE G y (d + 1) pc L (a4 :: a3 :: a2 :: a1 :: vr k0 :: st) σ Q :=
  q_callV (As := [a1, a2, a3, a4]) hd hV hs hc rfl rfl hcat hsz (q_mono (fun v σ' h => by obtain ⟨r, rfl, hp⟩ := h; exact kk r σ' hp) hE)
theorem q_V4l {idx k0 ci : Nat} {fs : List (Option Nat)} {a1 a2 a3 a4 : qV} {P : Int → qM → Prop} (hd : decode y.2.1 pc = .ok (.invokevirtual idx, 3)) (hV : qV1 y.1.cls idx z 4) (hs : qSh k0 = (0, ci, fs)) (hc : (vwCl[ci]?).map (fun q => q.1) = some z.1.cls) (hcat : (st.map qcat).sum ≤ 8) (hsz : ((vr k0 :: [a1, a2, a3, a4]).map qcat).sum ≤ z.2.2.1)
    (hE : qE G z d 0 (qarg 0 (vr k0 :: [a1, a2, a3, a4])) [] σ (rl P)) (kk : ∀ (r : Int) (σ1 : qM), P r σ1 → qE G y (d + 1) (pc + 3) L (vl r :: st) σ1 Q) : qE G y (d + 1) pc L (a4 :: a3 :: a2 :: a1 :: vr k0 :: st) σ Q :=
  q_callV (As := [a1, a2, a3, a4]) hd hV hs hc rfl rfl hcat hsz (q_mono (fun v σ' h => by obtain ⟨r, rfl, hp⟩ := h; exact kk r σ' hp) hE)
theorem q_V4r {idx k0 ci : Nat} {fs : List (Option Nat)} {a1 a2 a3 a4 : qV} {P : Nat → qM → Prop} (hd : decode y.2.1 pc = .ok (.invokevirtual idx, 3)) (hV : qV1 y.1.cls idx z 4) (hs : qSh k0 = (0, ci, fs)) (hc : (vwCl[ci]?).map (fun q => q.1) = some z.1.cls) (hcat : (st.map qcat).sum ≤ 8) (hsz : ((vr k0 :: [a1, a2, a3, a4]).map qcat).sum ≤ z.2.2.1)
    (hE : qE G z d 0 (qarg 0 (vr k0 :: [a1, a2, a3, a4])) [] σ (rr P)) (kk : ∀ (r : Nat) (σ1 : qM), P r σ1 → qE G y (d + 1) (pc + 3) L (vr r :: st) σ1 Q) : qE G y (d + 1) pc L (a4 :: a3 :: a2 :: a1 :: vr k0 :: st) σ Q :=
  q_callV (As := [a1, a2, a3, a4]) hd hV hs hc rfl rfl hcat hsz (q_mono (fun v σ' h => by obtain ⟨r, rfl, hp⟩ := h; exact kk r σ' hp) hE)
theorem q_V4v {idx k0 ci : Nat} {fs : List (Option Nat)} {a1 a2 a3 a4 : qV} {P : qM → Prop} (hd : decode y.2.1 pc = .ok (.invokevirtual idx, 3)) (hV : qV1 y.1.cls idx z 4) (hs : qSh k0 = (0, ci, fs)) (hc : (vwCl[ci]?).map (fun q => q.1) = some z.1.cls) (hcat : (st.map qcat).sum ≤ 8) (hsz : ((vr k0 :: [a1, a2, a3, a4]).map qcat).sum ≤ z.2.2.1)
    (hE : qE G z d 0 (qarg 0 (vr k0 :: [a1, a2, a3, a4])) [] σ (rv P)) (kk : ∀ σ1 : qM, P σ1 → qE G y (d + 1) (pc + 3) L st σ1 Q) : qE G y (d + 1) pc L (a4 :: a3 :: a2 :: a1 :: vr k0 :: st) σ Q :=
  q_callV (As := [a1, a2, a3, a4]) hd hV hs hc rfl rfl hcat hsz (q_mono (fun v σ' h => by obtain ⟨rfl, hp⟩ := h; exact kk σ' hp) hE)
theorem q_V5i {idx k0 ci : Nat} {fs : List (Option Nat)} {a1 a2 a3 a4 a5 : qV} {P : Int → qM → Prop} (hd : decode y.2.1 pc = .ok (.invokevirtual idx, 3)) (hV : qV1 y.1.cls idx z 5) (hs : qSh k0 = (0, ci, fs)) (hc : (vwCl[ci]?).map (fun q => q.1) = some z.1.cls) (hcat : (st.map qcat).sum ≤ 8) (hsz : ((vr k0 :: [a1, a2, a3, a4, a5]).map qcat).sum ≤ z.2.2.1)
    (hE : qE G z d 0 (qarg 0 (vr k0 :: [a1, a2, a3, a4, a5])) [] σ (ri P)) (kk : ∀ (r : Int) (σ1 : qM), P r σ1 → qE G y (d + 1) (pc + 3) L (vi r :: st) σ1 Q) : qE G y (d + 1) pc L (a5 :: a4 :: a3 :: a2 :: a1 :: vr k0 :: st) σ Q :=
  q_callV (As := [a1, a2, a3, a4, a5]) hd hV hs hc rfl rfl hcat hsz (q_mono (fun v σ' h => by obtain ⟨r, rfl, hp⟩ := h; exact kk r σ' hp) hE)
theorem q_V5l {idx k0 ci : Nat} {fs : List (Option Nat)} {a1 a2 a3 a4 a5 : qV} {P : Int → qM → Prop} (hd : decode y.2.1 pc = .ok (.invokevirtual idx, 3)) (hV : qV1 y.1.cls idx z 5) (hs : qSh k0 = (0, ci, fs)) (hc : (vwCl[ci]?).map (fun q => q.1) = some z.1.cls) (hcat : (st.map qcat).sum ≤ 8) (hsz : ((vr k0 :: [a1, a2, a3, a4, a5]).map qcat).sum ≤ z.2.2.1)
    (hE : qE G z d 0 (qarg 0 (vr k0 :: [a1, a2, a3, a4, a5])) [] σ (rl P)) (kk : ∀ (r : Int) (σ1 : qM), P r σ1 → qE G y (d + 1) (pc + 3) L (vl r :: st) σ1 Q) : qE G y (d + 1) pc L (a5 :: a4 :: a3 :: a2 :: a1 :: vr k0 :: st) σ Q :=
  q_callV (As := [a1, a2, a3, a4, a5]) hd hV hs hc rfl rfl hcat hsz (q_mono (fun v σ' h => by obtain ⟨r, rfl, hp⟩ := h; exact kk r σ' hp) hE)
theorem q_V5r {idx k0 ci : Nat} {fs : List (Option Nat)} {a1 a2 a3 a4 a5 : qV} {P : Nat → qM → Prop} (hd : decode y.2.1 pc = .ok (.invokevirtual idx, 3)) (hV : qV1 y.1.cls idx z 5) (hs : qSh k0 = (0, ci, fs)) (hc : (vwCl[ci]?).map (fun q => q.1) = some z.1.cls) (hcat : (st.map qcat).sum ≤ 8) (hsz : ((vr k0 :: [a1, a2, a3, a4, a5]).map qcat).sum ≤ z.2.2.1)
    (hE : qE G z d 0 (qarg 0 (vr k0 :: [a1, a2, a3, a4, a5])) [] σ (rr P)) (kk : ∀ (r : Nat) (σ1 : qM), P r σ1 → qE G y (d + 1) (pc + 3) L (vr r :: st) σ1 Q) : qE G y (d + 1) pc L (a5 :: a4 :: a3 :: a2 :: a1 :: vr k0 :: st) σ Q :=
  q_callV (As := [a1, a2, a3, a4, a5]) hd hV hs hc rfl rfl hcat hsz (q_mono (fun v σ' h => by obtain ⟨r, rfl, hp⟩ := h; exact kk r σ' hp) hE)
theorem q_V5v {idx k0 ci : Nat} {fs : List (Option Nat)} {a1 a2 a3 a4 a5 : qV} {P : qM → Prop} (hd : decode y.2.1 pc = .ok (.invokevirtual idx, 3)) (hV : qV1 y.1.cls idx z 5) (hs : qSh k0 = (0, ci, fs)) (hc : (vwCl[ci]?).map (fun q => q.1) = some z.1.cls) (hcat : (st.map qcat).sum ≤ 8) (hsz : ((vr k0 :: [a1, a2, a3, a4, a5]).map qcat).sum ≤ z.2.2.1)
    (hE : qE G z d 0 (qarg 0 (vr k0 :: [a1, a2, a3, a4, a5])) [] σ (rv P)) (kk : ∀ σ1 : qM, P σ1 → qE G y (d + 1) (pc + 3) L st σ1 Q) : qE G y (d + 1) pc L (a5 :: a4 :: a3 :: a2 :: a1 :: vr k0 :: st) σ Q :=
  q_callV (As := [a1, a2, a3, a4, a5]) hd hV hs hc rfl rfl hcat hsz (q_mono (fun v σ' h => by obtain ⟨rfl, hp⟩ := h; exact kk σ' hp) hE)
theorem q_V6i {idx k0 ci : Nat} {fs : List (Option Nat)} {a1 a2 a3 a4 a5 a6 : qV} {P : Int → qM → Prop} (hd : decode y.2.1 pc = .ok (.invokevirtual idx, 3)) (hV : qV1 y.1.cls idx z 6) (hs : qSh k0 = (0, ci, fs)) (hc : (vwCl[ci]?).map (fun q => q.1) = some z.1.cls) (hcat : (st.map qcat).sum ≤ 8) (hsz : ((vr k0 :: [a1, a2, a3, a4, a5, a6]).map qcat).sum ≤ z.2.2.1)
    (hE : qE G z d 0 (qarg 0 (vr k0 :: [a1, a2, a3, a4, a5, a6])) [] σ (ri P)) (kk : ∀ (r : Int) (σ1 : qM), P r σ1 → qE G y (d + 1) (pc + 3) L (vi r :: st) σ1 Q) : qE G y (d + 1) pc L (a6 :: a5 :: a4 :: a3 :: a2 :: a1 :: vr k0 :: st) σ Q :=
  q_callV (As := [a1, a2, a3, a4, a5, a6]) hd hV hs hc rfl rfl hcat hsz (q_mono (fun v σ' h => by obtain ⟨r, rfl, hp⟩ := h; exact kk r σ' hp) hE)
theorem q_V6l {idx k0 ci : Nat} {fs : List (Option Nat)} {a1 a2 a3 a4 a5 a6 : qV} {P : Int → qM → Prop} (hd : decode y.2.1 pc = .ok (.invokevirtual idx, 3)) (hV : qV1 y.1.cls idx z 6) (hs : qSh k0 = (0, ci, fs)) (hc : (vwCl[ci]?).map (fun q => q.1) = some z.1.cls) (hcat : (st.map qcat).sum ≤ 8) (hsz : ((vr k0 :: [a1, a2, a3, a4, a5, a6]).map qcat).sum ≤ z.2.2.1)
    (hE : qE G z d 0 (qarg 0 (vr k0 :: [a1, a2, a3, a4, a5, a6])) [] σ (rl P)) (kk : ∀ (r : Int) (σ1 : qM), P r σ1 → qE G y (d + 1) (pc + 3) L (vl r :: st) σ1 Q) : qE G y (d + 1) pc L (a6 :: a5 :: a4 :: a3 :: a2 :: a1 :: vr k0 :: st) σ Q :=
  q_callV (As := [a1, a2, a3, a4, a5, a6]) hd hV hs hc rfl rfl hcat hsz (q_mono (fun v σ' h => by obtain ⟨r, rfl, hp⟩ := h; exact kk r σ' hp) hE)
theorem q_V6r {idx k0 ci : Nat} {fs : List (Option Nat)} {a1 a2 a3 a4 a5 a6 : qV} {P : Nat → qM → Prop} (hd : decode y.2.1 pc = .ok (.invokevirtual idx, 3)) (hV : qV1 y.1.cls idx z 6) (hs : qSh k0 = (0, ci, fs)) (hc : (vwCl[ci]?).map (fun q => q.1) = some z.1.cls) (hcat : (st.map qcat).sum ≤ 8) (hsz : ((vr k0 :: [a1, a2, a3, a4, a5, a6]).map qcat).sum ≤ z.2.2.1)
    (hE : qE G z d 0 (qarg 0 (vr k0 :: [a1, a2, a3, a4, a5, a6])) [] σ (rr P)) (kk : ∀ (r : Nat) (σ1 : qM), P r σ1 → qE G y (d + 1) (pc + 3) L (vr r :: st) σ1 Q) : qE G y (d + 1) pc L (a6 :: a5 :: a4 :: a3 :: a2 :: a1 :: vr k0 :: st) σ Q :=
  q_callV (As := [a1, a2, a3, a4, a5, a6]) hd hV hs hc rfl rfl hcat hsz (q_mono (fun v σ' h => by obtain ⟨r, rfl, hp⟩ := h; exact kk r σ' hp) hE)
theorem q_V6v {idx k0 ci : Nat} {fs : List (Option Nat)} {a1 a2 a3 a4 a5 a6 : qV} {P : qM → Prop} (hd : decode y.2.1 pc = .ok (.invokevirtual idx, 3)) (hV : qV1 y.1.cls idx z 6) (hs : qSh k0 = (0, ci, fs)) (hc : (vwCl[ci]?).map (fun q => q.1) = some z.1.cls) (hcat : (st.map qcat).sum ≤ 8) (hsz : ((vr k0 :: [a1, a2, a3, a4, a5, a6]).map qcat).sum ≤ z.2.2.1)
    (hE : qE G z d 0 (qarg 0 (vr k0 :: [a1, a2, a3, a4, a5, a6])) [] σ (rv P)) (kk : ∀ σ1 : qM, P σ1 → qE G y (d + 1) (pc + 3) L st σ1 Q) : qE G y (d + 1) pc L (a6 :: a5 :: a4 :: a3 :: a2 :: a1 :: vr k0 :: st) σ Q :=
  q_callV (As := [a1, a2, a3, a4, a5, a6]) hd hV hs hc rfl rfl hcat hsz (q_mono (fun v σ' h => by obtain ⟨rfl, hp⟩ := h; exact kk σ' hp) hE)
theorem q_V7i {idx k0 ci : Nat} {fs : List (Option Nat)} {a1 a2 a3 a4 a5 a6 a7 : qV} {P : Int → qM → Prop} (hd : decode y.2.1 pc = .ok (.invokevirtual idx, 3)) (hV : qV1 y.1.cls idx z 7) (hs : qSh k0 = (0, ci, fs)) (hc : (vwCl[ci]?).map (fun q => q.1) = some z.1.cls) (hcat : (st.map qcat).sum ≤ 8) (hsz : ((vr k0 :: [a1, a2, a3, a4, a5, a6, a7]).map qcat).sum ≤ z.2.2.1)
    (hE : qE G z d 0 (qarg 0 (vr k0 :: [a1, a2, a3, a4, a5, a6, a7])) [] σ (ri P)) (kk : ∀ (r : Int) (σ1 : qM), P r σ1 → qE G y (d + 1) (pc + 3) L (vi r :: st) σ1 Q) : qE G y (d + 1) pc L (a7 :: a6 :: a5 :: a4 :: a3 :: a2 :: a1 :: vr k0 :: st) σ Q :=
  q_callV (As := [a1, a2, a3, a4, a5, a6, a7]) hd hV hs hc rfl rfl hcat hsz (q_mono (fun v σ' h => by obtain ⟨r, rfl, hp⟩ := h; exact kk r σ' hp) hE)
theorem q_V7l {idx k0 ci : Nat} {fs : List (Option Nat)} {a1 a2 a3 a4 a5 a6 a7 : qV} {P : Int → qM → Prop} (hd : decode y.2.1 pc = .ok (.invokevirtual idx, 3)) (hV : qV1 y.1.cls idx z 7) (hs : qSh k0 = (0, ci, fs)) (hc : (vwCl[ci]?).map (fun q => q.1) = some z.1.cls) (hcat : (st.map qcat).sum ≤ 8) (hsz : ((vr k0 :: [a1, a2, a3, a4, a5, a6, a7]).map qcat).sum ≤ z.2.2.1)
    (hE : qE G z d 0 (qarg 0 (vr k0 :: [a1, a2, a3, a4, a5, a6, a7])) [] σ (rl P)) (kk : ∀ (r : Int) (σ1 : qM), P r σ1 → qE G y (d + 1) (pc + 3) L (vl r :: st) σ1 Q) : qE G y (d + 1) pc L (a7 :: a6 :: a5 :: a4 :: a3 :: a2 :: a1 :: vr k0 :: st) σ Q :=
  q_callV (As := [a1, a2, a3, a4, a5, a6, a7]) hd hV hs hc rfl rfl hcat hsz (q_mono (fun v σ' h => by obtain ⟨r, rfl, hp⟩ := h; exact kk r σ' hp) hE)
theorem q_V7r {idx k0 ci : Nat} {fs : List (Option Nat)} {a1 a2 a3 a4 a5 a6 a7 : qV} {P : Nat → qM → Prop} (hd : decode y.2.1 pc = .ok (.invokevirtual idx, 3)) (hV : qV1 y.1.cls idx z 7) (hs : qSh k0 = (0, ci, fs)) (hc : (vwCl[ci]?).map (fun q => q.1) = some z.1.cls) (hcat : (st.map qcat).sum ≤ 8) (hsz : ((vr k0 :: [a1, a2, a3, a4, a5, a6, a7]).map qcat).sum ≤ z.2.2.1)
    (hE : qE G z d 0 (qarg 0 (vr k0 :: [a1, a2, a3, a4, a5, a6, a7])) [] σ (rr P)) (kk : ∀ (r : Nat) (σ1 : qM), P r σ1 → qE G y (d + 1) (pc + 3) L (vr r :: st) σ1 Q) : qE G y (d + 1) pc L (a7 :: a6 :: a5 :: a4 :: a3 :: a2 :: a1 :: vr k0 :: st) σ Q :=
  q_callV (As := [a1, a2, a3, a4, a5, a6, a7]) hd hV hs hc rfl rfl hcat hsz (q_mono (fun v σ' h => by obtain ⟨r, rfl, hp⟩ := h; exact kk r σ' hp) hE)
theorem q_V7v {idx k0 ci : Nat} {fs : List (Option Nat)} {a1 a2 a3 a4 a5 a6 a7 : qV} {P : qM → Prop} (hd : decode y.2.1 pc = .ok (.invokevirtual idx, 3)) (hV : qV1 y.1.cls idx z 7) (hs : qSh k0 = (0, ci, fs)) (hc : (vwCl[ci]?).map (fun q => q.1) = some z.1.cls) (hcat : (st.map qcat).sum ≤ 8) (hsz : ((vr k0 :: [a1, a2, a3, a4, a5, a6, a7]).map qcat).sum ≤ z.2.2.1)
    (hE : qE G z d 0 (qarg 0 (vr k0 :: [a1, a2, a3, a4, a5, a6, a7])) [] σ (rv P)) (kk : ∀ σ1 : qM, P σ1 → qE G y (d + 1) (pc + 3) L st σ1 Q) : qE G y (d + 1) pc L (a7 :: a6 :: a5 :: a4 :: a3 :: a2 :: a1 :: vr k0 :: st) σ Q :=
  q_callV (As := [a1, a2, a3, a4, a5, a6, a7]) hd hV hs hc rfl rfl hcat hsz (q_mono (fun v σ' h => by obtain ⟨rfl, hp⟩ := h; exact kk σ' hp) hE)
theorem q_V8i {idx k0 ci : Nat} {fs : List (Option Nat)} {a1 a2 a3 a4 a5 a6 a7 a8 : qV} {P : Int → qM → Prop} (hd : decode y.2.1 pc = .ok (.invokevirtual idx, 3)) (hV : qV1 y.1.cls idx z 8) (hs : qSh k0 = (0, ci, fs)) (hc : (vwCl[ci]?).map (fun q => q.1) = some z.1.cls) (hcat : (st.map qcat).sum ≤ 8) (hsz : ((vr k0 :: [a1, a2, a3, a4, a5, a6, a7, a8]).map qcat).sum ≤ z.2.2.1)
    (hE : qE G z d 0 (qarg 0 (vr k0 :: [a1, a2, a3, a4, a5, a6, a7, a8])) [] σ (ri P)) (kk : ∀ (r : Int) (σ1 : qM), P r σ1 → qE G y (d + 1) (pc + 3) L (vi r :: st) σ1 Q) : qE G y (d + 1) pc L (a8 :: a7 :: a6 :: a5 :: a4 :: a3 :: a2 :: a1 :: vr k0 :: st) σ Q :=
  q_callV (As := [a1, a2, a3, a4, a5, a6, a7, a8]) hd hV hs hc rfl rfl hcat hsz (q_mono (fun v σ' h => by obtain ⟨r, rfl, hp⟩ := h; exact kk r σ' hp) hE)
theorem q_V8l {idx k0 ci : Nat} {fs : List (Option Nat)} {a1 a2 a3 a4 a5 a6 a7 a8 : qV} {P : Int → qM → Prop} (hd : decode y.2.1 pc = .ok (.invokevirtual idx, 3)) (hV : qV1 y.1.cls idx z 8) (hs : qSh k0 = (0, ci, fs)) (hc : (vwCl[ci]?).map (fun q => q.1) = some z.1.cls) (hcat : (st.map qcat).sum ≤ 8) (hsz : ((vr k0 :: [a1, a2, a3, a4, a5, a6, a7, a8]).map qcat).sum ≤ z.2.2.1)
    (hE : qE G z d 0 (qarg 0 (vr k0 :: [a1, a2, a3, a4, a5, a6, a7, a8])) [] σ (rl P)) (kk : ∀ (r : Int) (σ1 : qM), P r σ1 → qE G y (d + 1) (pc + 3) L (vl r :: st) σ1 Q) : qE G y (d + 1) pc L (a8 :: a7 :: a6 :: a5 :: a4 :: a3 :: a2 :: a1 :: vr k0 :: st) σ Q :=
  q_callV (As := [a1, a2, a3, a4, a5, a6, a7, a8]) hd hV hs hc rfl rfl hcat hsz (q_mono (fun v σ' h => by obtain ⟨r, rfl, hp⟩ := h; exact kk r σ' hp) hE)
theorem q_V8r {idx k0 ci : Nat} {fs : List (Option Nat)} {a1 a2 a3 a4 a5 a6 a7 a8 : qV} {P : Nat → qM → Prop} (hd : decode y.2.1 pc = .ok (.invokevirtual idx, 3)) (hV : qV1 y.1.cls idx z 8) (hs : qSh k0 = (0, ci, fs)) (hc : (vwCl[ci]?).map (fun q => q.1) = some z.1.cls) (hcat : (st.map qcat).sum ≤ 8) (hsz : ((vr k0 :: [a1, a2, a3, a4, a5, a6, a7, a8]).map qcat).sum ≤ z.2.2.1)
    (hE : qE G z d 0 (qarg 0 (vr k0 :: [a1, a2, a3, a4, a5, a6, a7, a8])) [] σ (rr P)) (kk : ∀ (r : Nat) (σ1 : qM), P r σ1 → qE G y (d + 1) (pc + 3) L (vr r :: st) σ1 Q) : qE G y (d + 1) pc L (a8 :: a7 :: a6 :: a5 :: a4 :: a3 :: a2 :: a1 :: vr k0 :: st) σ Q :=
  q_callV (As := [a1, a2, a3, a4, a5, a6, a7, a8]) hd hV hs hc rfl rfl hcat hsz (q_mono (fun v σ' h => by obtain ⟨r, rfl, hp⟩ := h; exact kk r σ' hp) hE)
theorem q_V8v {idx k0 ci : Nat} {fs : List (Option Nat)} {a1 a2 a3 a4 a5 a6 a7 a8 : qV} {P : qM → Prop} (hd : decode y.2.1 pc = .ok (.invokevirtual idx, 3)) (hV : qV1 y.1.cls idx z 8) (hs : qSh k0 = (0, ci, fs)) (hc : (vwCl[ci]?).map (fun q => q.1) = some z.1.cls) (hcat : (st.map qcat).sum ≤ 8) (hsz : ((vr k0 :: [a1, a2, a3, a4, a5, a6, a7, a8]).map qcat).sum ≤ z.2.2.1)
    (hE : qE G z d 0 (qarg 0 (vr k0 :: [a1, a2, a3, a4, a5, a6, a7, a8])) [] σ (rv P)) (kk : ∀ σ1 : qM, P σ1 → qE G y (d + 1) (pc + 3) L st σ1 Q) : qE G y (d + 1) pc L (a8 :: a7 :: a6 :: a5 :: a4 :: a3 :: a2 :: a1 :: vr k0 :: st) σ Q :=
  q_callV (As := [a1, a2, a3, a4, a5, a6, a7, a8]) hd hV hs hc rfl rfl hcat hsz (q_mono (fun v σ' h => by obtain ⟨rfl, hp⟩ := h; exact kk σ' hp) hE)
theorem q_S1i {idx : Nat} {a1 : qV} {P : Int → qM → Prop} (hd : decode y.2.1 pc = .ok (.invokestatic idx, 3)) (hV : qV2 y.1.cls idx z 1) (hcat : (st.map qcat).sum ≤ 8) (hsz : ([a1].map qcat).sum ≤ z.2.2.1)
    (hE : qE G z d 0 (qarg 0 [a1]) [] σ (ri P)) (kk : ∀ (r : Int) (σ1 : qM), P r σ1 → qE G y (d + 1) (pc + 3) L (vi r :: st) σ1 Q) : qE G y (d + 1) pc L (a1 :: st) σ Q :=
  q_callS (As := [a1]) hd hV rfl rfl hcat hsz (q_mono (fun v σ' h => by obtain ⟨r, rfl, hp⟩ := h; exact kk r σ' hp) hE)
theorem q_S1l {idx : Nat} {a1 : qV} {P : Int → qM → Prop} (hd : decode y.2.1 pc = .ok (.invokestatic idx, 3)) (hV : qV2 y.1.cls idx z 1) (hcat : (st.map qcat).sum ≤ 8) (hsz : ([a1].map qcat).sum ≤ z.2.2.1)
    (hE : qE G z d 0 (qarg 0 [a1]) [] σ (rl P)) (kk : ∀ (r : Int) (σ1 : qM), P r σ1 → qE G y (d + 1) (pc + 3) L (vl r :: st) σ1 Q) : qE G y (d + 1) pc L (a1 :: st) σ Q :=
  q_callS (As := [a1]) hd hV rfl rfl hcat hsz (q_mono (fun v σ' h => by obtain ⟨r, rfl, hp⟩ := h; exact kk r σ' hp) hE)
theorem q_S1r {idx : Nat} {a1 : qV} {P : Nat → qM → Prop} (hd : decode y.2.1 pc = .ok (.invokestatic idx, 3)) (hV : qV2 y.1.cls idx z 1) (hcat : (st.map qcat).sum ≤ 8) (hsz : ([a1].map qcat).sum ≤ z.2.2.1)
    (hE : qE G z d 0 (qarg 0 [a1]) [] σ (rr P)) (kk : ∀ (r : Nat) (σ1 : qM), P r σ1 → qE G y (d + 1) (pc + 3) L (vr r :: st) σ1 Q) : qE G y (d + 1) pc L (a1 :: st) σ Q :=
  q_callS (As := [a1]) hd hV rfl rfl hcat hsz (q_mono (fun v σ' h => by obtain ⟨r, rfl, hp⟩ := h; exact kk r σ' hp) hE)
theorem q_S1v {idx : Nat} {a1 : qV} {P : qM → Prop} (hd : decode y.2.1 pc = .ok (.invokestatic idx, 3)) (hV : qV2 y.1.cls idx z 1) (hcat : (st.map qcat).sum ≤ 8) (hsz : ([a1].map qcat).sum ≤ z.2.2.1)
    (hE : qE G z d 0 (qarg 0 [a1]) [] σ (rv P)) (kk : ∀ σ1 : qM, P σ1 → qE G y (d + 1) (pc + 3) L st σ1 Q) : qE G y (d + 1) pc L (a1 :: st) σ Q :=
  q_callS (As := [a1]) hd hV rfl rfl hcat hsz (q_mono (fun v σ' h => by obtain ⟨rfl, hp⟩ := h; exact kk σ' hp) hE)
theorem q_S2i {idx : Nat} {a1 a2 : qV} {P : Int → qM → Prop} (hd : decode y.2.1 pc = .ok (.invokestatic idx, 3)) (hV : qV2 y.1.cls idx z 2) (hcat : (st.map qcat).sum ≤ 8) (hsz : ([a1, a2].map qcat).sum ≤ z.2.2.1)
    (hE : qE G z d 0 (qarg 0 [a1, a2]) [] σ (ri P)) (kk : ∀ (r : Int) (σ1 : qM), P r σ1 → qE G y (d + 1) (pc + 3) L (vi r :: st) σ1 Q) : qE G y (d + 1) pc L (a2 :: a1 :: st) σ Q :=
  q_callS (As := [a1, a2]) hd hV rfl rfl hcat hsz (q_mono (fun v σ' h => by obtain ⟨r, rfl, hp⟩ := h; exact kk r σ' hp) hE)
theorem q_S2l {idx : Nat} {a1 a2 : qV} {P : Int → qM → Prop} (hd : decode y.2.1 pc = .ok (.invokestatic idx, 3)) (hV : qV2 y.1.cls idx z 2) (hcat : (st.map qcat).sum ≤ 8) (hsz : ([a1, a2].map qcat).sum ≤ z.2.2.1)
    (hE : qE G z d 0 (qarg 0 [a1, a2]) [] σ (rl P)) (kk : ∀ (r : Int) (σ1 : qM), P r σ1 → qE G y (d + 1) (pc + 3) L (vl r :: st) σ1 Q) : qE G y (d + 1) pc L (a2 :: a1 :: st) σ Q :=
  q_callS (As := [a1, a2]) hd hV rfl rfl hcat hsz (q_mono (fun v σ' h => by obtain ⟨r, rfl, hp⟩ := h; exact kk r σ' hp) hE)
theorem q_S2r {idx : Nat} {a1 a2 : qV} {P : Nat → qM → Prop} (hd : decode y.2.1 pc = .ok (.invokestatic idx, 3)) (hV : qV2 y.1.cls idx z 2) (hcat : (st.map qcat).sum ≤ 8) (hsz : ([a1, a2].map qcat).sum ≤ z.2.2.1)
    (hE : qE G z d 0 (qarg 0 [a1, a2]) [] σ (rr P)) (kk : ∀ (r : Nat) (σ1 : qM), P r σ1 → qE G y (d + 1) (pc + 3) L (vr r :: st) σ1 Q) : qE G y (d + 1) pc L (a2 :: a1 :: st) σ Q :=
  q_callS (As := [a1, a2]) hd hV rfl rfl hcat hsz (q_mono (fun v σ' h => by obtain ⟨r, rfl, hp⟩ := h; exact kk r σ' hp) hE)
theorem q_S2v {idx : Nat} {a1 a2 : qV} {P : qM → Prop} (hd : decode y.2.1 pc = .ok (.invokestatic idx, 3)) (hV : qV2 y.1.cls idx z 2) (hcat : (st.map qcat).sum ≤ 8) (hsz : ([a1, a2].map qcat).sum ≤ z.2.2.1)
    (hE : qE G z d 0 (qarg 0 [a1, a2]) [] σ (rv P)) (kk : ∀ σ1 : qM, P σ1 → qE G y (d + 1) (pc + 3) L st σ1 Q) : qE G y (d + 1) pc L (a2 :: a1 :: st) σ Q :=
  q_callS (As := [a1, a2]) hd hV rfl rfl hcat hsz (q_mono (fun v σ' h => by obtain ⟨rfl, hp⟩ := h; exact kk σ' hp) hE)
theorem q_S3i {idx : Nat} {a1 a2 a3 : qV} {P : Int → qM → Prop} (hd : decode y.2.1 pc = .ok (.invokestatic idx, 3)) (hV : qV2 y.1.cls idx z 3) (hcat : (st.map qcat).sum ≤ 8) (hsz : ([a1, a2, a3].map qcat).sum ≤ z.2.2.1)
    (hE : qE G z d 0 (qarg 0 [a1, a2, a3]) [] σ (ri P)) (kk : ∀ (r : Int) (σ1 : qM), P r σ1 → qE G y (d + 1) (pc + 3) L (vi r :: st) σ1 Q) : qE G y (d + 1) pc L (a3 :: a2 :: a1 :: st) σ Q :=
  q_callS (As := [a1, a2, a3]) hd hV rfl rfl hcat hsz (q_mono (fun v σ' h => by obtain ⟨r, rfl, hp⟩ := h; exact kk r σ' hp) hE)
theorem q_S3l {idx : Nat} {a1 a2 a3 : qV} {P : Int → qM → Prop} (hd : decode y.2.1 pc = .ok (.invokestatic idx, 3)) (hV : qV2 y.1.cls idx z 3) (hcat : (st.map qcat).sum ≤ 8) (hsz : ([a1, a2, a3].map qcat).sum ≤ z.2.2.1)
    (hE : qE G z d 0 (qarg 0 [a1, a2, a3]) [] σ (rl P)) (kk : ∀ (r : Int) (σ1 : qM), P r σ1 → qE G y (d + 1) (pc + 3) L (vl r :: st) σ1 Q) : qE G y (d + 1) pc L (a3 :: a2 :: a1 :: st) σ Q :=
  q_callS (As := [a1, a2, a3]) hd hV rfl rfl hcat hsz (q_mono (fun v σ' h => by obtain ⟨r, rfl, hp⟩ := h; exact kk r σ' hp) hE)
theorem q_S3r {idx : Nat} {a1 a2 a3 : qV} {P : Nat → qM → Prop} (hd : decode y.2.1 pc = .ok (.invokestatic idx, 3)) (hV : qV2 y.1.cls idx z 3) (hcat : (st.map qcat).sum ≤ 8) (hsz : ([a1, a2, a3].map qcat).sum ≤ z.2.2.1)
    (hE : qE G z d 0 (qarg 0 [a1, a2, a3]) [] σ (rr P)) (kk : ∀ (r : Nat) (σ1 : qM), P r σ1 → qE G y (d + 1) (pc + 3) L (vr r :: st) σ1 Q) : qE G y (d + 1) pc L (a3 :: a2 :: a1 :: st) σ Q :=
  q_callS (As := [a1, a2, a3]) hd hV rfl rfl hcat hsz (q_mono (fun v σ' h => by obtain ⟨r, rfl, hp⟩ := h; exact kk r σ' hp) hE)
theorem q_S3v {idx : Nat} {a1 a2 a3 : qV} {P : qM → Prop} (hd : decode y.2.1 pc = .ok (.invokestatic idx, 3)) (hV : qV2 y.1.cls idx z 3) (hcat : (st.map qcat).sum ≤ 8) (hsz : ([a1, a2, a3].map qcat).sum ≤ z.2.2.1)
    (hE : qE G z d 0 (qarg 0 [a1, a2, a3]) [] σ (rv P)) (kk : ∀ σ1 : qM, P σ1 → qE G y (d + 1) (pc + 3) L st σ1 Q) : qE G y (d + 1) pc L (a3 :: a2 :: a1 :: st) σ Q :=
  q_callS (As := [a1, a2, a3]) hd hV rfl rfl hcat hsz (q_mono (fun v σ' h => by obtain ⟨rfl, hp⟩ := h; exact kk σ' hp) hE)
theorem q_S4i {idx : Nat} {a1 a2 a3 a4 : qV} {P : Int → qM → Prop} (hd : decode y.2.1 pc = .ok (.invokestatic idx, 3)) (hV : qV2 y.1.cls idx z 4) (hcat : (st.map qcat).sum ≤ 8) (hsz : ([a1, a2, a3, a4].map qcat).sum ≤ z.2.2.1)
    (hE : qE G z d 0 (qarg 0 [a1, a2, a3, a4]) [] σ (ri P)) (kk : ∀ (r : Int) (σ1 : qM), P r σ1 → qE G y (d + 1) (pc + 3) L (vi r :: st) σ1 Q) : qE G y (d + 1) pc L (a4 :: a3 :: a2 :: a1 :: st) σ Q :=
  q_callS (As := [a1, a2, a3, a4]) hd hV rfl rfl hcat hsz (q_mono (fun v σ' h => by obtain ⟨r, rfl, hp⟩ := h; exact kk r σ' hp) hE)
theorem q_S4l {idx : Nat} {a1 a2 a3 a4 : qV} {P : Int → qM → Prop} (hd : decode y.2.1 pc = .ok (.invokestatic idx, 3)) (hV : qV2 y.1.cls idx z 4) (hcat : (st.map qcat).sum ≤ 8) (hsz : ([a1, a2, a3, a4].map qcat).sum ≤ z.2.2.1)
    (hE : qE G z d 0 (qarg 0 [a1, a2, a3, a4]) [] σ (rl P)) (kk : ∀ (r : Int) (σ1 : qM), P r σ1 → qE G y (d + 1) (pc + 3) L (vl r :: st) σ1 Q) : qE G y (d + 1) pc L (a4 :: a3 :: a2 :: a1 :: st) σ Q :=
  q_callS (As := [a1, a2, a3, a4]) hd hV rfl rfl hcat hsz (q_mono (fun v σ' h => by obtain ⟨r, rfl, hp⟩ := h; exact kk r σ' hp) hE)
theorem q_S4r {idx : Nat} {a1 a2 a3 a4 : qV} {P : Nat → qM → Prop} (hd : decode y.2.1 pc = .ok (.invokestatic idx, 3)) (hV : qV2 y.1.cls idx z 4) (hcat : (st.map qcat).sum ≤ 8) (hsz : ([a1, a2, a3, a4].map qcat).sum ≤ z.2.2.1)
    (hE : qE G z d 0 (qarg 0 [a1, a2, a3, a4]) [] σ (rr P)) (kk : ∀ (r : Nat) (σ1 : qM), P r σ1 → qE G y (d + 1) (pc + 3) L (vr r :: st) σ1 Q) : qE G y (d + 1) pc L (a4 :: a3 :: a2 :: a1 :: st) σ Q :=
  q_callS (As := [a1, a2, a3, a4]) hd hV rfl rfl hcat hsz (q_mono (fun v σ' h => by obtain ⟨r, rfl, hp⟩ := h; exact kk r σ' hp) hE)
theorem q_S4v {idx : Nat} {a1 a2 a3 a4 : qV} {P : qM → Prop} (hd : decode y.2.1 pc = .ok (.invokestatic idx, 3)) (hV : qV2 y.1.cls idx z 4) (hcat : (st.map qcat).sum ≤ 8) (hsz : ([a1, a2, a3, a4].map qcat).sum ≤ z.2.2.1)
    (hE : qE G z d 0 (qarg 0 [a1, a2, a3, a4]) [] σ (rv P)) (kk : ∀ σ1 : qM, P σ1 → qE G y (d + 1) (pc + 3) L st σ1 Q) : qE G y (d + 1) pc L (a4 :: a3 :: a2 :: a1 :: st) σ Q :=
  q_callS (As := [a1, a2, a3, a4]) hd hV rfl rfl hcat hsz (q_mono (fun v σ' h => by obtain ⟨rfl, hp⟩ := h; exact kk σ' hp) hE)
end QW
