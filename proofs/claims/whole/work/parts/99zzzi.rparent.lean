/-! ===== The reference: parent (one more parent of a span) ===== -/
/-- rows D (perhaps replaced) and fields fs of the object were written -/
def rG (D fs : List Nat) (S S' : MM) (F F' : Nat → Nat × Nat) (t : Nat) (z z' : Nat → Nat) : Prop := Keep (fun c => c = t ∨ ∃ k, k ∈ D ∧ c = z k) S S' ∧ (∀ b, b ∈ mL S → F' b = F b) ∧ (∀ f, f ∉ fs → mI S' f t = mI S f t) ∧ (∀ f, (∀ k, k ∈ D → f ≠ 1500 + k) → mR S' f t = mR S f t) ∧ ∀ k, z' k = z k ∨ (k ∈ D ∧ z' k ∉ mL S)
section RGS9
variable {D D' fs fs' : List Nat} {S S1 S2 : MM} {F F1 F2 : Nat → Nat × Nat} {t : Nat} {z z1 z2 : Nat → Nat}
theorem rG.rf : rG D fs S S F F t z z := ⟨Keep.rf, fun _ _ => rfl, fun _ _ => rfl, fun _ _ => rfl, fun _ => Or.inl rfl⟩
theorem rG.tr (h1 : rG D fs S S1 F F1 t z z1) (h2 : rG D fs S1 S2 F1 F2 t z1 z2) : rG D fs S S2 F F2 t z z2 := by
  obtain ⟨a1, a2, a3, a4, a5⟩ := h1
  obtain ⟨b1, b2, b3, b4, b5⟩ := h2
  refine ⟨Keep.trN a1 b1 (fun b hb q => ?_), fun b hb => (b2 b (a1.1 b hb).1).trans (a2 b hb), fun f hf => (b3 f hf).trans (a3 f hf), fun f hf => (b4 f hf).trans (a4 f hf), fun k => ?_⟩
  · rcases q with e | ⟨k, k1, e⟩
    · exact Or.inl e
    · rcases a5 k with w | w
      · exact Or.inr ⟨k, k1, e.trans w⟩
      · exact absurd (e ▸ hb) w.2
  · rcases b5 k with w | w
    · rw [w]; exact a5 k
    · exact Or.inr ⟨w.1, fun q => w.2 (a1.1 _ q).1⟩
theorem rG.mono (h : rG D fs S S1 F F1 t z z1) (hD : ∀ k, k ∈ D → k ∈ D') (hf : ∀ f, f ∈ fs → f ∈ fs') : rG D' fs' S S1 F F1 t z z1 := by
  obtain ⟨a1, a2, a3, a4, a5⟩ := h
  refine ⟨a1.mono (fun b _ q => ?_), a2, fun f hf9 => a3 f (fun q => hf9 (hf f q)), fun f hf9 => a4 f (fun k hk => hf9 k (hD k hk)), fun k => ?_⟩
  · rcases q with e | ⟨k, k1, e⟩
    · exact Or.inl e
    · exact Or.inr ⟨k, hD k k1, e⟩
  · rcases a5 k with w | w
    · exact Or.inl w
    · exact Or.inr ⟨hD k w.1, w.2⟩
theorem rG.zo (h : rG D fs S S1 F F1 t z z1) {k : Nat} (hk : k ∉ D) : z1 k = z k := (h.2.2.2.2 k).resolve_right (fun q => hk q.1)
theorem rK.rg (h : rK D fs S S1 t z) : rG D fs S S1 F F t z z := ⟨h.1, fun _ _ => rfl, h.2.1, fun f _ => h.2.2 f, fun _ => Or.inl rfl⟩
theorem grX.rg {n : Nat} (h : grX D S S1 F F1 t z z1 n) (hn : ∀ k, k ∈ D → z1 k ∉ mL S) : rG D [] S S1 F F1 t z z1 := ⟨h.1.mono (fun b _ e => Or.inl e), h.2.2.2.1, fun f _ => h.2.1 f, h.2.2.1, fun k => by
  by_cases c : k ∈ D
  · exact Or.inr ⟨c, hn k c⟩
  · exact Or.inl (h.2.2.2.2.2.1 k c)⟩
/-- a row of the object that is none of D -/
theorem rG.row (h : rG D fs S S1 F F1 t z z1) {Y : Nat → Nat → Nat} {R : Rb} {kz : Nat → Nat} (hM : MD S F t z Y R kz) (hD : ∀ k, k ∈ D → k ∈ mdL) {j : Nat} (hj : j ∈ mdL) (hn : j ∉ D) : eI S1 (z j) = eI S (z j) ∧ eJ S1 (z j) = eJ S (z j) ∧ eR S1 (z j) = eR S (z j) := by
  have := h.1.2.1 _ (hM 1 j hj).2.2.1.1 (fun q => by
    rcases q with e | ⟨k, k1, e⟩
    · exact rK.nt hM hj e.symm
    · exact rK.nz hM hj (hD k k1) (fun w => hn (w ▸ k1)) e)
  exact ⟨this.2.2.2.1, this.2.2.2.2.1, this.2.2.2.2.2⟩
theorem rG.by (h : rG D fs S S1 F F1 t z z1) {Y : Nat → Nat → Nat} {R : Rb} {kz : Nat → Nat} (hM : MD S F t z Y R kz) {r : Nat} {B : List Nat} (hB : byN S r B) (hr : ∀ k, k ∈ D → r ≠ z k) : byN S1 r B := by
  have hrt : r ≠ t := fun e => by
    have a1 := hB.1.2
    rw [e, (hM 0).1.2] at a1
    exact absurd a1 (by decide)
  have := h.1.2.1 r hB.1.1 (fun q => by
    rcases q with e | ⟨k, k1, e⟩
    · exact hrt e
    · exact hr k k1 e)
  refine ⟨h.1.isO hB.1, by rw [(h.1.1 r hB.1.1).2.2]; exact hB.2.1, hB.2.2.1, hB.2.2.2.1, fun j hj => ?_⟩
  rw [this.2.2.2.1]; exact hB.2.2.2.2 j hj
theorem rG.ls (h : rG D fs S S1 F F1 t z z1) {Y : Nat → Nat → Nat} {R : Rb} {kz : Nat → Nat} (hM : MD S F t z Y R kz) (hD : ∀ k, k ∈ D → k ∈ mdL) (h31 : 31 ∉ D) (hf : 1532 ∉ fs) {L : List Nat} (hL : lsP S t z L) : lsP S1 t z1 L := ⟨(h.2.2.1 _ hf).trans hL.1, fun j hj => by rw [h.zo h31, (h.row hM hD (j := 31) (by decide) h31).1]; exact hL.2.1 j hj, hL.2.2⟩
theorem rG.co (h : rG D fs S S1 F F1 t z z1) {Y : Nat → Nat → Nat} {R : Rb} {kz : Nat → Nat} (hM : MD S F t z Y R kz) (hD : ∀ k, k ∈ D → k ∈ mdL) (h38 : 38 ∉ D) (h39 : 39 ∉ D) {cA cE : Nat → Nat} (hC : coP S z cA cE) : coP S1 z1 cA cE := fun k hk => by
  rw [h.zo h38, h.zo h39, (h.row hM hD (j := 38) (by decide) h38).1, (h.row hM hD (j := 39) (by decide) h39).1]; exact hC k hk
end RGS9
/-- the parents read so far -/
def paP (S : MM) (t : Nat) (z : Nat → Nat) (kz : Nat → Nat) (PL : List (Nat × Nat)) : Prop := mI S 1550 t = nI PL.length ∧ PL.length ≤ kz 47 ∧ ∀ j, j < PL.length → eI S (z 47) j = nI (PL.getD j (0, 0)).1 ∧ eJ S (z 48) j = lN (PL.getD j (0, 0)).2
def paZ (kz : Nat → Nat) (m : Nat) : Nat → Nat := if m = kz 47 then upF kz 47 (2 * kz 47) else kz
def paC (kz : Nat → Nat) (m : Nat) : Nat := if m = kz 47 then 2 else 0
def paW (kz : Nat → Nat) (m : Nat) : Nat := if m = kz 47 then 4 * kz 47 else 0
def I_pa (t a : Nat) (v : Int64) (F : Nat → Nat × Nat) (z : Nat → Nat) (Y : Nat → Nat → Nat) (R : Rb) (kz : Nat → Nat) (PL : List (Nat × Nat)) (S : MM) (k : Nat) : KT := fun lo st S1 cs sl => ∃ F1 z1, k = 1 ∧ MD S1 F1 t z1 Y R (paZ kz PL.length) ∧ rG [47, 48] [] S S1 F F1 t z z1 ∧ paP S1 t z1 (paZ kz PL.length) PL ∧ PL.length < paZ kz PL.length 47 ∧ lo = [(0, .inr (.inr (some t))), (1, .inl (nI a)), (2, .inr (.inl v))] ∧ st = [] ∧ cs = paC kz PL.length ∧ sl = paW kz PL.length
def T_rpar : TR := fun Rc Rs av S cs sl K _Kx => match av with
  | [.inr (.inr t_o), .inl a_v, .inr (.inl v)] => pa t_o fun t => (∃ (a : Nat), a_v = nI a ∧ (∃ (F : Nat → Nat × Nat) (z : Nat → Nat) (Y : Nat → Nat → Nat) (R : Rb) (kz : Nat → Nat) (PL : List (Nat × Nat)) (x : Nat), (MD S F t z Y R kz ∧ paP S t z kz PL ∧ PL.length ≤ 65536 ∧ v = lN x) ∧ cs + (paC kz PL.length) ≤ Rc ∧ sl + (paW kz PL.length) ≤ Rs ∧ (∀ (S' : MM), (∃ F' z', MD S' F' t z' Y R (paZ kz PL.length) ∧ rG [47, 48] [1550] S S' F F' t z z' ∧ paP S' t z' (paZ kz PL.length) (PL ++ [(a, x)])) → K none S' (cs + (paC kz PL.length)) (sl + (paW kz PL.length)))))
  | _ => False
def sp_rpar (t : Nat) (a : Nat) (v : Int64) (F : Nat → Nat × Nat) (z : Nat → Nat) (Y : Nat → Nat → Nat) (R : Rb) (kz : Nat → Nat) (PL : List (Nat × Nat)) (x : Nat) : Sp := (fun av S => av = [.inr (.inr (some t)), .inl (nI a), .inr (.inl v)] ∧ (MD S F t z Y R kz ∧ paP S t z kz PL ∧ PL.length ≤ 65536 ∧ v = lN x), fun _ S => paC kz PL.length, fun _ S => paW kz PL.length, fun _ S rv S' => rv = none ∧ (∃ F' z', MD S' F' t z' Y R (paZ kz PL.length) ∧ rG [47, 48] [1550] S S' F F' t z z' ∧ paP S' t z' (paZ kz PL.length) (PL ++ [(a, x)])), fun _ _ _ _ => False)
def tX14_parent : CD := [(0, .aload_n 0), (1, .getfield 482), (4, .aload_n 0), (5, .getfield 125), (8, .arraylength), (9, .if_icmp .ne 37), (12, .aload_n 0), (13, .aload_n 0), (14, .getfield 125), (17, .iconst 2), (18, .aload_n 0), (19, .getfield 482), (22, .imul), (23, .invokestatic 304), (26, .putfield 125), (29, .aload_n 0), (30, .aload_n 0), (31, .getfield 128), (34, .iconst 2), (35, .aload_n 0), (36, .getfield 482), (39, .imul), (40, .invokestatic 479), (43, .putfield 128), (46, .aload_n 0), (47, .getfield 125), (50, .aload_n 0), (51, .getfield 482), (54, .iload_n 1), (55, .iastore), (56, .aload_n 0), (57, .getfield 128), (60, .aload_n 0), (61, .getfield 482), (64, .lload_n 2), (65, .lastore), (66, .aload_n 0), (67, .dup), (68, .getfield 482), (71, .iconst 1), (72, .iadd), (73, .putfield 482), (76, .return_)]
set_option maxRecDepth 100000 in
theorem kX14_parent : chk cX14_parent tX14_parent = true := by decide +kernel
theorem vX14_parent_304 : ∀ w ∈ ([.methodLink RX14 304 yJ7_copyOf_59c91, .static yJ7_copyOf_59c91, .initialized yJ7_copyOf_59c91.cls, .code yJ7_copyOf_59c91 cJ7_copyOf_59c91 3 (some (.array .int))] : List Cond), w ∈ lw_good := List.forall_mem_cons.mpr ⟨mgd 2209 (by decide +kernel) (by decide +kernel), List.forall_mem_cons.mpr ⟨mgd 1267 (by decide +kernel) (by decide +kernel), List.forall_mem_cons.mpr ⟨mgd 135 (by decide +kernel) (by decide +kernel), List.forall_mem_cons.mpr ⟨mgd 1268 (by decide +kernel) (by decide +kernel), fun _ h => absurd h List.not_mem_nil⟩⟩⟩⟩
theorem vX14_parent_479 : ∀ w ∈ ([.methodLink RX14 479 yJ7_copyOf_c38d5, .static yJ7_copyOf_c38d5, .initialized yJ7_copyOf_c38d5.cls, .code yJ7_copyOf_c38d5 cJ7_copyOf_c38d5 3 (some (.array .long))] : List Cond), w ∈ lw_good := List.forall_mem_cons.mpr ⟨mgd 2385 (by decide +kernel) (by decide +kernel), List.forall_mem_cons.mpr ⟨mgd 2386 (by decide +kernel) (by decide +kernel), List.forall_mem_cons.mpr ⟨mgd 135 (by decide +kernel) (by decide +kernel), List.forall_mem_cons.mpr ⟨mgd 2387 (by decide +kernel) (by decide +kernel), fun _ h => absurd h List.not_mem_nil⟩⟩⟩⟩
set_option maxRecDepth 100000 in
set_option maxHeartbeats 2000000 in
theorem c_rpar (l : Launch) : ∀ (t : Nat) (a : Nat) (v : Int64) (F : Nat → Nat × Nat) (z : Nat → Nat) (Y : Nat → Nat → Nat) (R : Rb) (kz : Nat → Nat) (PL : List (Nat × Nat)) (x : Nat), Ct l yX14_parent cX14_parent 4 none 2 54 (sp_rpar t a v F z Y R kz PL x) := by
  intro t a v F z Y R kz PL x
  refine Ct.of (fX14, nX14, aX14, iX14, lX14, [(304, 2, 2, 3, T_cpi), (479, 2, 2, 3, T_cpj)], qX14, gX14, []) false tX14_parent (fun _ S => look [(46, ([0,1,2], I_pa t a v F z Y R kz PL S))]) (by decide) (by decide) kX14_parent ⟨_, _, rfl⟩ fX14_ok nX14_ok aX14_ok iX14_ok lX14_ok (fun p e R s m args below meth c Q D cy z r A C hR1 hR2 => List.forall_mem_cons.mpr ⟨cOK_use (fun _ _ _ _ _ _ _ _ h => let ⟨sp, h1, _, h3⟩ := u_cpi l _ _ _ _ _ _ _ _ h; ⟨sp, cOK_S C h1 vX14_parent_304 ⟨by decide, by decide, by decide +kernel⟩ ⟨by rw [hR1]; decide, by rw [hR2]; decide⟩, h3⟩), List.forall_mem_cons.mpr ⟨cOK_use (fun _ _ _ _ _ _ _ _ h => let ⟨sp, h1, _, h3⟩ := u_cpj l _ _ _ _ _ _ _ _ h; ⟨sp, cOK_S C h1 vX14_parent_479 ⟨by decide, by decide, by decide +kernel⟩ ⟨by rw [hR1]; decide, by rw [hR2]; decide⟩, h3⟩), fun _ h => absurd h List.not_mem_nil⟩⟩) qX14_ok gX14_ok rfl ?_ ?_
  · rintro _ S ⟨rfl, hp⟩
    refine ⟨Nat.le_of_ble_eq_true rfl, 300, ?_⟩
    show (isO S 15 t ∧ (isO S 15 t ∧ (pa (mR S 1547 t) fun a_1 => ∃ v_2 : Int32, (a_1 ∈ mL S ∧ ¬ mK S a_1 < 16 ∧ mK S a_1 < 29 ∧ v_2 = Int32.ofNat (mN S a_1) ∨ a_1 = mZ S ∧ v_2 = 0) ∧ ((¬ (mI S 1550 t) = v_2 → (∃ k1, I_pa t a v F z Y R kz PL S k1 [(0, .inr (.inr (some t))), (1, .inl (nI a)), (2, .inr (.inl v))] [] S 0 0)) ∧ ((mI S 1550 t) = v_2 → (isO S 15 t ∧ (isO S 15 t ∧ (2 = 2 ∧ ((pa (mR S 1547 t) fun a_3 => (∃ (n_4 : Nat), (2 : Int32) * (mI S 1550 t) = nI n_4 ∧ ((isO S 17 a_3 ∧ mN S a_3 < n_4 ∧ n_4 ≤ 60000000) ∧ 0 + 1 ≤ paC kz PL.length ∧ 0 + n_4 ≤ paW kz PL.length ∧ (∀ (x_6 : Option Nat) (S_5 : MM), (∃ q, q ∉ mL S ∧ x_6 = some q ∧ S_5 = cpI S a_3 q n_4) → (True ∧ (isO S_5 15 t ∧ (isO (sR S_5 1547 t x_6) 15 t ∧ (isO (sR S_5 1547 t x_6) 15 t ∧ (2 = 2 ∧ ((pa (mR (sR S_5 1547 t x_6) 1548 t) fun a_7 => (∃ (n_8 : Nat), (2 : Int32) * (mI (sR S_5 1547 t x_6) 1550 t) = nI n_8 ∧ ((isO (sR S_5 1547 t x_6) 18 a_7 ∧ mN (sR S_5 1547 t x_6) a_7 < n_8 ∧ n_8 ≤ 60000000) ∧ 0 + 1 + 1 ≤ paC kz PL.length ∧ 0 + n_4 + n_8 ≤ paW kz PL.length ∧ (∀ (x_10 : Option Nat) (S_9 : MM), (∃ q, q ∉ mL (sR S_5 1547 t x_6) ∧ x_10 = some q ∧ S_9 = cpJ (sR S_5 1547 t x_6) a_7 q n_8) → (True ∧ (isO S_9 15 t ∧ (∃ k1, I_pa t a v F z Y R kz PL S k1 [(0, .inr (.inr (some t))), (1, .inl (nI a)), (2, .inr (.inl v))] [] (sR S_9 1548 t x_10) (0 + 1 + 1) (0 + n_4 + n_8)))))))))))))))))))))))))))
    obtain ⟨h, ⟨p1, p2, p3⟩, hPl, hv⟩ := hp
    have r47 := h 1 47 (by decide)
    have r48 := h 1 48 (by decide)
    have n47 : mN S (z 47) = kz 47 := r47.2.2.2
    have n48 : mN S (z 48) = kz 47 := r48.2.2.2
    obtain ⟨b1, b2, b3, b4, b5, b6⟩ := h 11
    rw [p1]
    refine ⟨(h 0).1, (h 0).1, pa_i r47.1 ⟨nI (kz 47), Or.inl ⟨r47.2.2.1.1, by rw [r47.2.2.1.2]; decide, by rw [r47.2.2.1.2]; decide, by rw [n47]; rfl⟩, if_ne (by omega) (by omega) (fun w => ?_) (fun w => ?_)⟩⟩
    · have e1 : paZ kz PL.length = kz := if_neg w
      have e2 : paC kz PL.length = 0 := if_neg w
      have e3 : paW kz PL.length = 0 := if_neg w
      exact ⟨1, F, z, rfl, by rw [e1]; exact h, rG.rf, by rw [e1]; exact ⟨p1, p2, p3⟩, by rw [e1]; omega, rfl, rfl, e2.symm, e3.symm⟩
    · have e1 : paZ kz PL.length = upF kz 47 (2 * kz 47) := if_pos w
      have e2 : paC kz PL.length = 2 := if_pos w
      have e3 : paW kz PL.length = 4 * kz 47 := if_pos w
      have g0 : grX [] S S F F t z z (2 * kz 47) := grX.rf (h 12)
      rw [e2, e3, w]
      refine ⟨(h 0).1, (h 0).1, rfl, pa_i r47.1 ⟨2 * kz 47, nI_twice _, ⟨r47.2.2.1, by rw [n47]; omega, by omega⟩, by omega, by omega, fun x0 T0 h0 => ?_⟩⟩
      obtain ⟨q0, hq0, rfl, rfl⟩ := h0
      have g1 := g0.sI (k := 47) (h 0).1.1 (by decide) r47.2.2.1 (fun e => rK.nt h (k := 47) (by decide) e.symm) hq0 rfl
      have o0 := g1.1.isO (h 0).1
      refine ⟨trivial, o0, ?_⟩
      generalize hS0 : sR (cpI S (z 47) q0 (2 * kz 47)) _ t (some q0) = S0 at g1 o0 ⊢
      have m48 : mR S0 1548 t = some (z 48) := (g1.2.2.1 _ (by decide)).trans r48.1
      have o48 : isO S0 18 (z 48) := g1.1.isO r48.2.2.1
      have k48 : mN S0 (z 48) = kz 47 := ((g1.1.1 _ r48.2.2.1.1).2.2).trans n48
      have i50 : mI S0 1550 t = nI (kz 47) := ((g1.2.1 _).trans p1).trans (by rw [w])
      refine ⟨o0, o0, rfl, pa_i m48 ⟨2 * kz 47, by rw [i50, nI_twice], ⟨o48, by rw [k48]; omega, by omega⟩, by omega, by omega, fun x1 T1 h1 => ?_⟩⟩
      obtain ⟨q1, hq1, rfl, rfl⟩ := h1
      have g2 := g1.sJ (k := 48) (h 0).1.1 (by decide) r48.2.2.1 (fun e => rK.nt h (k := 48) (by decide) e.symm) hq1 rfl
      have o1 := g2.1.isO (h 0).1
      have f1 : q1 ∉ mL S := fun w => hq1 (g1.1.1 _ w).1
      have M2 : MD _ _ t _ Y R (upF kz 47 (2 * kz 47)) := h.grw g2 (by decide) (fun k hk => by
        have : ∀ k, k ∈ [48, 47] → k = 48 ∨ k = 47 := by decide
        rcases this k hk with e | e <;> subst e <;> rfl) (fun k hk hD => by
        have : ∀ k, k ∈ mdL → k ∉ [48, 47] → k = 0 ∨ k = 1 ∨ k = 3 ∨ k = 4 ∨ k = 5 ∨ k = 6 ∨ k = 7 ∨ k = 9 ∨ k = 11 ∨ k = 12 ∨ k = 15 ∨ k = 16 ∨ k = 17 ∨ k = 19 ∨ k = 22 ∨ k = 23 ∨ k = 24 ∨ k = 31 ∨ k = 38 ∨ k = 39 ∨ k = 40 ∨ k = 41 ∨ k = 42 ∨ k = 43 ∨ k = 44 ∨ k = 45 ∨ k = 46 := by decide
        rcases this k hk hD with e | e | e | e | e | e | e | e | e | e | e | e | e | e | e | e | e | e | e | e | e | e | e | e | e | e | e <;> subst e <;> rfl) rfl ⟨b1, b2, b3, b4, by show 16 ≤ 2 * kz 47; omega, by show 2 * kz 47 ≤ 131072; omega⟩
      refine ⟨trivial, o1, 1, _, _, rfl, by rw [e1]; exact M2, (g2.rg (fun k hk => ?_)).mono (fun k hk => ?_) (fun f hf => hf), ?_, ?_, rfl, rfl, e2.symm, by rw [e3]; omega⟩
      · have : ∀ k, k ∈ [48, 47] → k = 48 ∨ k = 47 := by decide
        rcases this k hk with e | e <;> subst e
        · exact f1
        · exact hq0
      · have : ∀ k, k ∈ [48, 47] → k ∈ [47, 48] := by decide
        exact this k hk
      · rw [e1]
        refine ⟨(g2.2.1 _).trans p1, by show PL.length ≤ 2 * kz 47; omega, fun j hj => ?_⟩
        obtain ⟨a1, a2⟩ := p3 j hj
        rw [(g2.2.2.2.2.2.2 47 (by decide)).2.2.2.2.1 rfl j (by rw [n47]; omega), (g2.2.2.2.2.2.2 48 (by decide)).2.2.2.2.2 rfl j (by rw [n48]; omega)]
        exact ⟨a1, a2⟩
      · rw [e1]; show PL.length < 2 * kz 47; omega
  · intro av S hpre pc I hI k lo st S1 cs sl h
    obtain ⟨rfl, hp⟩ := hpre
    have hm := look_in hI
    rw [List.mem_singleton] at hm
    cases hm
    obtain ⟨F1, z1, rfl, h1, hG, hP, hlt, rfl, rfl, rfl, rfl⟩ := h
    refine ⟨300, ?_⟩
    show (isO S1 15 t ∧ (isO S1 15 t ∧ (pa (mR S1 1547 t) fun a_1 => isO S1 17 a_1 ∧ inR S1 a_1 (mI S1 1550 t) ∧ (isO (rI S1 a_1 (upd (eI S1 a_1) (mI S1 1550 t).toNatClampNeg (nI a))) 15 t ∧ (isO (rI S1 a_1 (upd (eI S1 a_1) (mI S1 1550 t).toNatClampNeg (nI a))) 15 t ∧ (pa (mR (rI S1 a_1 (upd (eI S1 a_1) (mI S1 1550 t).toNatClampNeg (nI a))) 1548 t) fun a_2 => isO (rI S1 a_1 (upd (eI S1 a_1) (mI S1 1550 t).toNatClampNeg (nI a))) 18 a_2 ∧ inR (rI S1 a_1 (upd (eI S1 a_1) (mI S1 1550 t).toNatClampNeg (nI a))) a_2 (mI (rI S1 a_1 (upd (eI S1 a_1) (mI S1 1550 t).toNatClampNeg (nI a))) 1550 t) ∧ (isO (rJ (rI S1 a_1 (upd (eI S1 a_1) (mI S1 1550 t).toNatClampNeg (nI a))) a_2 (vp_updL (eJ (rI S1 a_1 (upd (eI S1 a_1) (mI S1 1550 t).toNatClampNeg (nI a))) a_2) (mI (rI S1 a_1 (upd (eI S1 a_1) (mI S1 1550 t).toNatClampNeg (nI a))) 1550 t).toNatClampNeg v)) 15 t ∧ (True ∧ (isO (rJ (rI S1 a_1 (upd (eI S1 a_1) (mI S1 1550 t).toNatClampNeg (nI a))) a_2 (vp_updL (eJ (rI S1 a_1 (upd (eI S1 a_1) (mI S1 1550 t).toNatClampNeg (nI a))) a_2) (mI (rI S1 a_1 (upd (eI S1 a_1) (mI S1 1550 t).toNatClampNeg (nI a))) 1550 t).toNatClampNeg v)) 15 t ∧ (([] : List MV) = [] ∧ mret none (sp_rpar t a v F z Y R kz PL x) [.inr (.inr (some t)), .inl (nI a), .inr (.inl v)] S none (sI (rJ (rI S1 a_1 (upd (eI S1 a_1) (mI S1 1550 t).toNatClampNeg (nI a))) a_2 (vp_updL (eJ (rI S1 a_1 (upd (eI S1 a_1) (mI S1 1550 t).toNatClampNeg (nI a))) a_2) (mI (rI S1 a_1 (upd (eI S1 a_1) (mI S1 1550 t).toNatClampNeg (nI a))) 1550 t).toNatClampNeg v)) 1550 t ((mI (rJ (rI S1 a_1 (upd (eI S1 a_1) (mI S1 1550 t).toNatClampNeg (nI a))) a_2 (vp_updL (eJ (rI S1 a_1 (upd (eI S1 a_1) (mI S1 1550 t).toNatClampNeg (nI a))) a_2) (mI (rI S1 a_1 (upd (eI S1 a_1) (mI S1 1550 t).toNatClampNeg (nI a))) 1550 t).toNatClampNeg v)) 1550 t) + (1 : Int32))) (paC kz PL.length) (paW kz PL.length)))))))))))
    obtain ⟨h, ⟨p1, p2, p3⟩, hPl, hv⟩ := hp
    obtain ⟨q1, q2, q3⟩ := hP
    have r47 := h1 1 47 (by decide)
    have r48 := h1 1 48 (by decide)
    have cl : (nI PL.length).toNatClampNeg = PL.length := nI_clamp (by omega)
    obtain ⟨b1, b2, b3, b4, b5, b6⟩ := h1 11
    have ot := (h1 0).1
    have hne : z1 47 ≠ z1 48 := rK.nz h1 (by decide) (by decide) (by decide)
    have key : ∀ S9, S9 = sI (rJ (rI S1 (z1 47) (upd (eI S1 (z1 47)) PL.length (nI a))) (z1 48) (vp_updL (eJ S1 (z1 48)) PL.length v)) 1550 t (nI (PL.length + 1)) → (∃ F' z', MD S9 F' t z' Y R (paZ kz PL.length) ∧ rG [47, 48] [1550] S S9 F F' t z z' ∧ paP S9 t z' (paZ kz PL.length) (PL ++ [(a, x)])) := fun S9 e => by
      subst e
      have k9 : rK [47, 48] [1550] S1 (sI (rJ (rI S1 (z1 47) (upd (eI S1 (z1 47)) PL.length (nI a))) (z1 48) (vp_updL (eJ S1 (z1 48)) PL.length v)) 1550 t (nI (PL.length + 1))) t z1 := ⟨Keep.sI (P := fun c => c = t ∨ ∃ k, k ∈ [47, 48] ∧ c = z1 k) (Keep.rJ (P := fun c => c = t ∨ ∃ k, k ∈ [47, 48] ∧ c = z1 k) (Keep.rI (P := fun c => c = t ∨ ∃ k, k ∈ [47, 48] ∧ c = z1 k) Keep.rf (Or.inr ⟨47, by decide, rfl⟩)) (Or.inr ⟨48, by decide, rfl⟩)) (Or.inl rfl), fun f hf => by rw [mI_sI, if_neg (fun e => hf (List.mem_singleton.2 e.1))]; rfl, fun _ => rfl⟩
      refine ⟨F1, z1, k9.md h1 (by decide) (by decide), (hG.mono (fun k hk => hk) (fun f hf => by cases hf)).tr k9.rg, ?_, ?_, fun j hj => ?_⟩
      · rw [mI_sI, if_pos ⟨rfl, rfl⟩, List.length_append]; rfl
      · rw [List.length_append]; exact hlt
      · rw [List.length_append] at hj
        have hj : j < PL.length + 1 := hj
        show eI (rI S1 (z1 47) _) (z1 47) j = _ ∧ eJ (rJ S1 (z1 48) _) (z1 48) j = _
        rw [eI_rI, if_pos rfl, eJ_rJ, if_pos rfl, upd, vp_updL]
        by_cases c : j = PL.length
        · rw [if_pos c, if_pos c, c, List.getD_eq_getElem?_getD, List.getElem?_append_right (Nat.le_refl _), Nat.sub_self]
          exact ⟨rfl, hv⟩
        · rw [if_neg c, if_neg c, List.getD_eq_getElem?_getD, List.getElem?_append_left (by omega), ← List.getD_eq_getElem?_getD]
          exact q3 j (by omega)
    refine ⟨ot, ot, pa_i r47.1 ⟨r47.2.2.1, by rw [q1]; exact inRn (N := paZ kz PL.length 47) r47.2.2.2 hlt (by omega), ot, ot, pa_i r48.1 ⟨r48.2.2.1, (show inR S1 (z1 48) (mI S1 1550 t) from by rw [q1]; exact inRn (N := paZ kz PL.length 47) r48.2.2.2 hlt (by omega)), ot, trivial, ot, rfl, trivial, ⟨rfl, key _ ?_⟩, Nat.le_refl _, Nat.le_refl _⟩⟩⟩
    show sI (rJ (rI S1 (z1 47) (upd (eI S1 (z1 47)) (mI S1 1550 t).toNatClampNeg (nI a))) (z1 48) (vp_updL (eJ S1 (z1 48)) (mI S1 1550 t).toNatClampNeg v)) 1550 t (mI S1 1550 t + 1) = _
    rw [q1, cl, nI_1]
theorem u_rpar (l : Launch) : Us l yX14_parent cX14_parent 4 none 2 54 15 T_rpar := by
  intro Rc Rs av S cs sl K Kx h
  unfold T_rpar at h
  split at h
  · rename_i t_o a_v v
    obtain ⟨t, rfl, h_1⟩ := pa_of h
    obtain ⟨a, rfl, h_2⟩ := h_1
    obtain ⟨F, z, Y, R, kz, PL, x, hp, hc, hs, hk⟩ := h_2
    refine ⟨(sp_rpar t a v F z Y R kz PL x), c_rpar l t a v F z Y R kz PL x, fun _ _ h9 => ⟨_, _, h9.1, (h9.2.1 0).1⟩, ⟨rfl, hp⟩, hc, hs, fun S' h8 => by
      obtain ⟨-, h8⟩ := h8
      exact hk _ h8, fun _ _ q => q.elim⟩
  · exact h.elim
