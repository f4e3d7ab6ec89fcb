/-! ===== The reference reads: what is written meanwhile; the agents ===== -/
/-- rows D and fields fs of the object were written -/
def rK (D fs : List Nat) (S S' : MM) (t : Nat) (z : Nat → Nat) : Prop := Keep (fun c => c = t ∨ ∃ k, k ∈ D ∧ c = z k) S S' ∧ (∀ f, f ∉ fs → mI S' f t = mI S f t) ∧ ∀ f, mR S' f t = mR S f t
section RKS
variable {D D' fs fs' : List Nat} {S S1 S2 : MM} {F : Nat → Nat × Nat} {t : Nat} {z : Nat → Nat} {Y : Nat → Nat → Nat} {R : Rb} {kz : Nat → Nat}
theorem rK.rf : rK D fs S S t z := ⟨Keep.rf, fun _ _ => rfl, fun _ => rfl⟩
theorem rK.tr (h1 : rK D fs S S1 t z) (h2 : rK D fs S1 S2 t z) : rK D fs S S2 t z := ⟨h1.1.tr h2.1, fun f hf => (h2.2.1 f hf).trans (h1.2.1 f hf), fun f => (h2.2.2 f).trans (h1.2.2 f)⟩
theorem rK.mono (h : rK D fs S S1 t z) (hD : ∀ k, k ∈ D → k ∈ D') (hf : ∀ f, f ∈ fs → f ∈ fs') : rK D' fs' S S1 t z := ⟨h.1.mono (fun b _ q => by
  rcases q with e | ⟨k, k1, e⟩
  · exact Or.inl e
  · exact Or.inr ⟨k, hD k k1, e⟩), fun f hf9 => h.2.1 f (fun q => hf9 (hf f q)), h.2.2⟩
theorem rK.md (h : rK D fs S S1 t z) (hM : MD S F t z Y R kz) (hD : ∀ k, k ∈ D → k ∈ mdL ∧ k ∉ mdP) (hf : ∀ f, f ∈ fs → f ∉ [1502, 1508, 1510, 1513, 1514]) : MD S1 F t z Y R kz := by
  refine hM.keep0 h.1 (fun b hb => ?_) (fun f hf9 => h.2.1 f (fun q => hf f q hf9)) h.2.2 (fun _ _ => rfl) (fun b hb => (h.1.1 b (hM 12 b hb)).1)
  rcases hb with e | ⟨k, k1, e⟩
  · rw [e, (hM 0).2]
    exact ⟨rfl, fun k _ q => by injection q with _ q; omega⟩
  · rw [e, (hM 1 k (hD k k1).1).2.1]
    refine ⟨rfl, fun k9 hk9 q => ?_⟩
    injection q with _ q
    exact (hD k k1).2 (by rw [show k = k9 by omega]; exact hk9)
theorem rK.sf (f : Nat) (v : Int32) : rK [] [f] S (sI S f t v) t z := ⟨Keep.sI (P := fun c => c = t ∨ ∃ k, k ∈ ([] : List Nat) ∧ c = z k) Keep.rf (Or.inl rfl), fun f9 hf => by rw [mI_sI, if_neg (fun e => hf (List.mem_singleton.2 e.1))], fun _ => rfl⟩
theorem rK.nt (hM : MD S F t z Y R kz) {k : Nat} (hk : k ∈ mdL) : t ≠ z k := fun e => by
  have h9 := (hM 0).2
  rw [e, (hM 1 k hk).2.1] at h9
  injection h9 with _ h9
  omega
theorem rK.nz (hM : MD S F t z Y R kz) {j k : Nat} (hj : j ∈ mdL) (hk : k ∈ mdL) (h : j ≠ k) : z j ≠ z k := fun e => by
  have h9 := (hM 1 j hj).2.1
  rw [e, (hM 1 k hk).2.1] at h9
  injection h9 with _ h9
  omega
/-- a row that wasn't written -/
theorem rK.row (h : rK D fs S S1 t z) (hM : MD S F t z Y R kz) (hD : ∀ k, k ∈ D → k ∈ mdL) {j : Nat} (hj : j ∈ mdL) (hn : j ∉ D) : eI S1 (z j) = eI S (z j) ∧ eJ S1 (z j) = eJ S (z j) ∧ eR S1 (z j) = eR S (z j) := by
  have := h.1.2.1 _ (hM 1 j hj).2.2.1.1 (fun q => by
    rcases q with e | ⟨k, k1, e⟩
    · exact rK.nt hM hj e.symm
    · exact rK.nz hM hj (hD k k1) (fun w => hn (w ▸ k1)) e)
  exact ⟨this.2.2.2.1, this.2.2.2.2.1, this.2.2.2.2.2⟩
theorem rK.by (h : rK D fs S S1 t z) (hM : MD S F t z Y R kz) {r : Nat} {B : List Nat} (hB : byN S r B) (hr : ∀ k, k ∈ D → r ≠ z k) : byN S1 r B := by
  have hrt : r ≠ t := fun e => by
    have a1 := hB.1.2
    rw [e, (hM 0).1.2] at a1
    exact absurd a1 (by decide)
  have := h.1.2.1 r hB.1.1 (fun q => by
    rcases q with e | ⟨k, k1, e⟩
    · exact hrt e
    · exact hr k k1 e)
  refine ⟨h.1.isO hB.1, by rw [(h.1.1 r hB.1.1).2.2]; exact hB.2.1, hB.2.2.1, hB.2.2.2.1, fun j hj => ?_⟩
  rw [this.2.2.2.1]; exact hB.2.2.2.2 j hj
theorem rK.ls (h : rK D fs S S1 t z) (hM : MD S F t z Y R kz) (hD : ∀ k, k ∈ D → k ∈ mdL) (h31 : 31 ∉ D) (hf : 1532 ∉ fs) {L : List Nat} (hL : lsP S t z L) : lsP S1 t z L := ⟨(h.2.1 _ hf).trans hL.1, fun j hj => by rw [(h.row hM hD (j := 31) (by decide) h31).1]; exact hL.2.1 j hj, hL.2.2⟩
theorem rK.co (h : rK D fs S S1 t z) (hM : MD S F t z Y R kz) (hD : ∀ k, k ∈ D → k ∈ mdL) (h38 : 38 ∉ D) (h39 : 39 ∉ D) {cA cE : Nat → Nat} (hC : coP S z cA cE) : coP S1 z cA cE := fun k hk => by
  rw [(h.row hM hD (j := 38) (by decide) h38).1, (h.row hM hD (j := 39) (by decide) h39).1]; exact hC k hk
theorem lsQ.rk {L : List Nat} {a : Nat} (h : lsQ S S1 F t z Y R kz L a) : rK [31] [1532] S S1 t z := ⟨h.2.2.1.mono (fun b _ q => by
  rcases q with e | e
  · exact Or.inl e
  · exact Or.inr ⟨31, by decide, e⟩), fun f hf => h.2.2.2.1 f (fun e => hf (by rw [e]; decide)), h.2.2.2.2⟩
end RKS
/-- rows that aren't of bytes -/
theorem byN.nz {S : MM} {F : Nat → Nat × Nat} {t : Nat} {z : Nat → Nat} {Y : Nat → Nat → Nat} {R : Rb} {kz : Nat → Nat} {r : Nat} {B : List Nat} (hB : byN S r B) (hM : MD S F t z Y R kz) {k : Nat} (hk : k ∈ mdL) (h16 : mdK k ≠ 16) : r ≠ z k := fun e => by
  have a1 := hB.1.2
  rw [e, (hM 1 k hk).2.2.1.2] at a1
  exact h16 a1
theorem oJ_lt {o : Option Nat} (h : ∀ n, o = some n → n < 2147483648) : lg_cmp (oJ o) 0 < 0 ↔ o = none := by
  cases o with
  | none => exact ⟨fun _ => rfl, fun _ => by decide⟩
  | some n =>
    have := h n rfl
    show lg_cmp (lN n) (lN 0) < 0 ↔ _
    rw [lgl (by omega) (by decide)]
    exact ⟨fun q => absurd q (Nat.not_lt_zero n), fun q => by cases q⟩
theorem lgk {a b : Nat} (ha : a < 9223372036854775807) (hb : b < 9223372036854775807) : lg_cmp (lN a) (lN b) ≤ 0 ↔ a ≤ b := by
  rw [← Int32.not_lt, (lgc ha hb).1]; omega
theorem lgg {a b : Nat} (ha : a < 9223372036854775807) (hb : b < 9223372036854775807) : 0 ≤ lg_cmp (lN a) (lN b) ↔ b ≤ a := by
  rw [← Int32.not_lt, lgl ha hb]; omega
def rfs : List Nat := [1532, 1535, 1536]
/-- reading a column is under way -/
def rcX (D fs : List Nat) (S S1 : MM) (t r : Nat) (z : Nat → Nat) (B : List Nat) (p q : Nat) : Prop := rK D fs S S1 t z ∧ rdP9 S1 t r B p q
section RCX
variable {D fs : List Nat} {S S1 S2 : MM} {F : Nat → Nat × Nat} {t r : Nat} {z : Nat → Nat} {Y : Nat → Nat → Nat} {R : Rb} {kz : Nat → Nat} {B : List Nat} {p q : Nat}
theorem rcX.nu (h : rcX D fs S S1 t r z B p q) (hM : MD S1 F t z Y R kz) (h35 : 1535 ∈ fs) (hq : nuQ S1 S2 t B p q) : ∃ p', p ≤ p' ∧ p' ≤ q ∧ rcX D fs S S2 t r z B p' q ∧ ∀ n, (vint B q p).1 = some n → p' = (vint B q p).2 := by
  obtain ⟨p', a1, a2, rfl, a4⟩ := hq
  obtain ⟨hK, r1, r2, r3, r4, r5, r6⟩ := h
  have hk : rK D fs S1 (sI S1 1535 t (nI p')) t z := (rK.sf 1535 (nI p')).mono (fun k hk => by cases hk) (fun f hf => by rw [List.mem_singleton.1 hf]; exact h35)
  refine ⟨p', a1, a2, ⟨hK.tr hk, r1, (rK.sf (z := z) 1535 (nI p')).by hM r2 (fun k hk => by cases hk), by rw [mI_sI, if_pos ⟨rfl, rfl⟩], ?_, a2, r6⟩, a4⟩
  rw [mI_sI, if_neg (fun e => absurd e.1 (by decide))]; exact r4
theorem rcX.st {D' fs' : List Nat} (h : rcX D fs S S1 t r z B p q) (hM : MD S1 F t z Y R kz) (hk : rK D' fs' S1 S2 t z) (hD : ∀ k, k ∈ D' → k ∈ D) (hf : ∀ f, f ∈ fs' → f ∈ fs) (h35 : 1535 ∉ fs') (h36 : 1536 ∉ fs') (hr : ∀ k, k ∈ D' → r ≠ z k) : rcX D fs S S2 t r z B p q := by
  obtain ⟨hK, r1, r2, r3, r4, r5, r6⟩ := h
  exact ⟨hK.tr (hk.mono hD hf), (hk.2.2 _).trans r1, hk.by hM r2 hr, (hk.2.1 _ h35).trans r3, (hk.2.1 _ h36).trans r4, r5, r6⟩
theorem rcX.en {k : Nat} {cA cE : Nat → Nat} (hM : MD S F t z Y R kz) (h35 : 1535 ∈ fs) (h36 : 1536 ∈ fs) (r1 : mR S 1534 t = some r) (r2 : byN S r B) (h1 : cA k ≤ cE k) (h2 : cE k ≤ B.length) : rcX D fs S (sI (sI S 1535 t (nI (cA k))) 1536 t (nI (cE k))) t r z B (cA k) (cE k) := by
  have k1 : rK [1535, 1536] [1535, 1536] S (sI (sI S 1535 t (nI (cA k))) 1536 t (nI (cE k))) t z := ((rK.sf 1535 (nI (cA k))).mono (fun k hk => by cases hk) (by decide)).tr ((rK.sf 1536 (nI (cE k))).mono (fun k hk => by cases hk) (by decide))
  have k2 : rK D fs S (sI (sI S 1535 t (nI (cA k))) 1536 t (nI (cE k))) t z := ((rK.sf 1535 (nI (cA k))).mono (fun k hk => by cases hk) (fun f hf => by rw [List.mem_singleton.1 hf]; exact h35)).tr ((rK.sf 1536 (nI (cE k))).mono (fun k hk => by cases hk) (fun f hf => by rw [List.mem_singleton.1 hf]; exact h36))
  have k3 : rK [] [1535, 1536] S (sI (sI S 1535 t (nI (cA k))) 1536 t (nI (cE k))) t z := ((rK.sf 1535 (nI (cA k))).mono (fun k hk => by cases hk) (by decide)).tr ((rK.sf 1536 (nI (cE k))).mono (fun k hk => by cases hk) (by decide))
  refine ⟨k2, r1, k3.by hM r2 (fun k hk => by cases hk), ?_, by rw [mI_sI, if_pos ⟨rfl, rfl⟩], h1, h2⟩
  rw [mI_sI, if_neg (fun e => absurd e.1 (by decide)), mI_sI, if_pos ⟨rfl, rfl⟩]
theorem rcX.md (h : rcX D fs S S1 t r z B p q) (hM : MD S F t z Y R kz) (hD : ∀ k, k ∈ D → k ∈ mdL ∧ k ∉ mdP) (hf : ∀ f, f ∈ fs → f ∉ [1502, 1508, 1510, 1513, 1514]) : MD S1 F t z Y R kz := h.1.md hM hD hf
end RCX
def I_ra (t r : Nat) (z : Nat → Nat) (B : List Nat) (cA cE : Nat → Nat) (S : MM) (k : Nat) : KT := fun lo st S1 cs sl => ∃ (n : Nat) (L : List Nat) (p : Nat), (vint B (cE 0) (cA 0)).1 = some n ∧ n ≤ 256 ∧ L.length + k = n ∧ rcX [31] rfs S S1 t r z B p (cE 0) ∧ lsP S1 t z L ∧ agR B (cE 0) k L p = agR B (cE 0) n [] (vint B (cE 0) (cA 0)).2 ∧ lo = [(0, .inr (.inr (some t))), (1, .inr (.inl (lN n))), (3, .inl (nI L.length))] ∧ st = [] ∧ cs = 0 ∧ sl = 0
/-- what is read: the row, its bytes, where the columns are -/
def rdC (S : MM) (t r : Nat) (z : Nat → Nat) (B : List Nat) (cA cE : Nat → Nat) : Prop := mR S 1534 t = some r ∧ byN S r B ∧ coP S z cA cE ∧ ∀ k, k < 5 → cA k ≤ cE k ∧ cE k ≤ B.length
def T_rra : TR := fun Rc Rs av S cs sl K _Kx => match av with
  | [.inr (.inr t_o)] => pa t_o fun t => (∃ (F : Nat → Nat × Nat) (z : Nat → Nat) (Y : Nat → Nat → Nat) (R : Rb) (kz : Nat → Nat) (r : Nat) (B : List Nat) (cA cE : Nat → Nat), (MD S F t z Y R kz ∧ rdC S t r z B cA cE) ∧ cs ≤ Rc ∧ sl ≤ Rs ∧ (∀ (S' : MM), (rK [31] rfs S S' t z ∧ ∀ L, rdA B (cA 0) (cE 0) = some L → lsP S' t z L) → K (some (.inl (bI (rdA B (cA 0) (cE 0)).isSome))) S' cs sl))
  | _ => False
def sp_rra (t : Nat) (F : Nat → Nat × Nat) (z : Nat → Nat) (Y : Nat → Nat → Nat) (R : Rb) (kz : Nat → Nat) (r : Nat) (B : List Nat) (cA cE : Nat → Nat) : Sp := (fun av S => av = [.inr (.inr (some t))] ∧ (MD S F t z Y R kz ∧ rdC S t r z B cA cE), fun _ S => 0, fun _ S => 0, fun _ S rv S' => rv = (some (.inl (bI (rdA B (cA 0) (cE 0)).isSome))) ∧ (rK [31] rfs S S' t z ∧ ∀ L, rdA B (cA 0) (cE 0) = some L → lsP S' t z L), fun _ _ _ _ => False)
def tX14_readAgents : CD := [(0, .aload_n 0), (1, .iconst 0), (2, .invokevirtual 458), (5, .aload_n 0), (6, .invokevirtual 431), (9, .lstore_n 1), (10, .lload_n 1), (11, .lconst 0), (12, .lcmp), (13, .ifCond .lt 11), (16, .lload_n 1), (17, .ldc2_w 461), (20, .lcmp), (21, .ifCond .le 5), (24, .iconst 0), (25, .ireturn), (26, .aload_n 0), (27, .iconst 0), (28, .putfield 332), (31, .iconst 0), (32, .istore_n 3), (33, .iload_n 3), (34, .i2l), (35, .lload_n 1), (36, .lcmp), (37, .ifCond .ge 44), (40, .aload_n 0), (41, .invokevirtual 431), (44, .lstore 4), (46, .lload 4), (48, .lconst 0), (49, .lcmp), (50, .ifCond .lt 23), (53, .lload 4), (55, .ldc2_w 434), (58, .lcmp), (59, .ifCond .gt 14), (62, .aload_n 0), (63, .lload 4), (65, .l2i), (66, .invokevirtual 374), (69, .iload_n 3), (70, .if_icmp .eq 5), (73, .iconst 0), (74, .ireturn), (75, .iinc 3 1), (78, .goto (-45)), (81, .aload_n 0), (82, .getfield 398), (85, .aload_n 0), (86, .getfield 401), (89, .if_icmp .ne 7), (92, .iconst 1), (93, .goto 4), (96, .iconst 0), (97, .ireturn)]
set_option maxRecDepth 100000 in
theorem kX14_readAgents : chk cX14_readAgents tX14_readAgents = true := by decide +kernel
theorem vX14_readAgents_458 : ∀ w ∈ ([.methodLink RX14 458 yX14_enter, .instanceMethod yX14_enter, .selects yX14_enter.cls yX14_enter yX14_enter, .initialized yX14_enter.cls, .code yX14_enter cX14_enter 2 none] : List Cond), w ∈ lw_good := List.forall_mem_cons.mpr ⟨mgd 2361 (by decide +kernel) (by decide +kernel), List.forall_mem_cons.mpr ⟨mgd 2363 (by decide +kernel) (by decide +kernel), List.forall_mem_cons.mpr ⟨mgd 103 (by decide +kernel) (by decide +kernel), List.forall_mem_cons.mpr ⟨mgd 136 (by decide +kernel) (by decide +kernel), List.forall_mem_cons.mpr ⟨mgd 2364 (by decide +kernel) (by decide +kernel), fun _ h => absurd h List.not_mem_nil⟩⟩⟩⟩⟩
theorem vX14_readAgents_431 : ∀ w ∈ ([.methodLink RX14 431 yX14_number, .instanceMethod yX14_number, .selects yX14_number.cls yX14_number yX14_number, .initialized yX14_number.cls, .code yX14_number cX14_number 5 (some .long)] : List Cond), w ∈ lw_good := List.forall_mem_cons.mpr ⟨mgd 2346 (by decide +kernel) (by decide +kernel), List.forall_mem_cons.mpr ⟨mgd 2348 (by decide +kernel) (by decide +kernel), List.forall_mem_cons.mpr ⟨mgd 100 (by decide +kernel) (by decide +kernel), List.forall_mem_cons.mpr ⟨mgd 136 (by decide +kernel) (by decide +kernel), List.forall_mem_cons.mpr ⟨mgd 2349 (by decide +kernel) (by decide +kernel), fun _ h => absurd h List.not_mem_nil⟩⟩⟩⟩⟩
theorem vX14_readAgents_374 : ∀ w ∈ ([.methodLink RX14 374 yX14_list, .instanceMethod yX14_list, .selects yX14_list.cls yX14_list yX14_list, .initialized yX14_list.cls, .code yX14_list cX14_list 3 (some .int)] : List Cond), w ∈ lw_good := List.forall_mem_cons.mpr ⟨mgd 2303 (by decide +kernel) (by decide +kernel), List.forall_mem_cons.mpr ⟨mgd 2305 (by decide +kernel) (by decide +kernel), List.forall_mem_cons.mpr ⟨mgd 93 (by decide +kernel) (by decide +kernel), List.forall_mem_cons.mpr ⟨mgd 136 (by decide +kernel) (by decide +kernel), List.forall_mem_cons.mpr ⟨mgd 2306 (by decide +kernel) (by decide +kernel), fun _ h => absurd h List.not_mem_nil⟩⟩⟩⟩⟩
set_option maxRecDepth 100000 in
set_option maxHeartbeats 2000000 in
theorem c_rra (l : Launch) : ∀ (t : Nat) (F : Nat → Nat × Nat) (z : Nat → Nat) (Y : Nat → Nat → Nat) (R : Rb) (kz : Nat → Nat) (r : Nat) (B : List Nat) (cA cE : Nat → Nat), Ct l yX14_readAgents cX14_readAgents 6 (some .boolean) 1 24 (sp_rra t F z Y R kz r B cA cE) := by
  intro t F z Y R kz r B cA cE
  refine Ct.of (fX14, nX14, aX14, iX14, lX14, [(458, 0, 2, 0, T_rent), (431, 0, 1, 2, T_rnum), (374, 0, 2, 1, T_rlst)], qX14, gX14, []) false tX14_readAgents (fun _ S => look [(33, ([0,1,3], I_ra t r z B cA cE S))]) (by decide) (by decide) kX14_readAgents ⟨_, _, rfl⟩ fX14_ok nX14_ok aX14_ok iX14_ok lX14_ok (fun p e R s m args below meth c Q D cy z r A C hR1 hR2 => List.forall_mem_cons.mpr ⟨cOK_use (fun _ _ _ _ _ _ _ _ h => let ⟨sp, h1, h2, h3⟩ := u_rent l _ _ _ _ _ _ _ _ h; ⟨sp, cOK_V C h1 vX14_readAgents_458 ⟨by decide, by decide, by decide +kernel⟩ ⟨by rw [hR1]; decide, by rw [hR2]; decide⟩ (k := 15) (T := TX14) (N := 52) rfl (by decide) h2, h3⟩), List.forall_mem_cons.mpr ⟨cOK_use (fun _ _ _ _ _ _ _ _ h => let ⟨sp, h1, h2, h3⟩ := u_rnum l _ _ _ _ _ _ _ _ h; ⟨sp, cOK_V C h1 vX14_readAgents_431 ⟨by decide, by decide, by decide +kernel⟩ ⟨by rw [hR1]; decide, by rw [hR2]; decide⟩ (k := 15) (T := TX14) (N := 52) rfl (by decide) h2, h3⟩), List.forall_mem_cons.mpr ⟨cOK_use (fun _ _ _ _ _ _ _ _ h => let ⟨sp, h1, h2, h3⟩ := u_rlst l _ _ _ _ _ _ _ _ h; ⟨sp, cOK_V C h1 vX14_readAgents_374 ⟨by decide, by decide, by decide +kernel⟩ ⟨by rw [hR1]; decide, by rw [hR2]; decide⟩ (k := 15) (T := TX14) (N := 52) rfl (by decide) h2, h3⟩), fun _ h => absurd h List.not_mem_nil⟩⟩⟩) qX14_ok gX14_ok rfl ?_ ?_
  · rintro _ S ⟨rfl, hp⟩
    refine ⟨Nat.le_of_ble_eq_true rfl, 300, ?_⟩
    show (0 = 0 ∧ (∃ (c_1 : Nat), (0 : Int32) = nI c_1 ∧ (∃ (F_2 : Nat → Nat × Nat) (z_3 : Nat → Nat) (Y_4 : Nat → Nat → Nat) (R_5 : Rb) (kz_6 : Nat → Nat) (cA_7 cE_8 : Nat → Nat), (MD S F_2 t z_3 Y_4 R_5 kz_6 ∧ coP S z_3 cA_7 cE_8 ∧ c_1 < 5) ∧ 0 ≤ 0 ∧ 0 ≤ 0 ∧ ((0 = 0 ∧ (∃ (F_10 : Nat → Nat × Nat) (z_11 : Nat → Nat) (Y_12 : Nat → Nat → Nat) (R_13 : Rb) (kz_14 : Nat → Nat) (r_15 : Nat) (B_16 : List Nat) (p_17 q_18 : Nat), (MD (sI (sI S 1535 t (nI (cA_7 c_1))) 1536 t (nI (cE_8 c_1))) F_10 t z_11 Y_12 R_13 kz_14 ∧ rdP9 (sI (sI S 1535 t (nI (cA_7 c_1))) 1536 t (nI (cE_8 c_1))) t r_15 B_16 p_17 q_18) ∧ 0 ≤ 0 ∧ 0 ≤ 0 ∧ (∀ (S_19 : MM), (nuQ (sI (sI S 1535 t (nI (cA_7 c_1))) 1536 t (nI (cE_8 c_1))) S_19 t B_16 p_17 q_18) → (((lg_cmp (oJ (vint B_16 q_18 p_17).1) (0 : Int64)) < 0 → (([] : List MV) = [] ∧ mret (some .boolean) (sp_rra t F z Y R kz r B cA cE) [.inr (.inr (some t))] S (some (.inl (0 : Int32))) S_19 0 0)) ∧ (¬ (lg_cmp (oJ (vint B_16 q_18 p_17).1) (0 : Int64)) < 0 → (((lg_cmp (oJ (vint B_16 q_18 p_17).1) (256 : Int64)) ≤ 0 → (True ∧ (isO S_19 15 t ∧ (∃ k1, I_ra t r z B cA cE S k1 [(0, .inr (.inr (some t))), (1, .inr (.inl (oJ (vint B_16 q_18 p_17).1))), (3, .inl (0 : Int32))] [] (sI S_19 1532 t (0 : Int32)) 0 0)))) ∧ (¬ (lg_cmp (oJ (vint B_16 q_18 p_17).1) (256 : Int64)) ≤ 0 → (([] : List MV) = [] ∧ mret (some .boolean) (sp_rra t F z Y R kz r B cA cE) [.inr (.inr (some t))] S (some (.inl (0 : Int32))) S_19 0 0))))))))))))
    obtain ⟨hM, r1, r2, hC, hc⟩ := hp
    obtain ⟨c1, c2⟩ := hc 0 (by decide)
    have hX0 : rcX [31] rfs S (sI (sI S 1535 t (nI (cA 0))) 1536 t (nI (cE 0))) t r z B (cA 0) (cE 0) := rcX.en hM (by decide) (by decide) r1 r2 c1 c2
    have M0 := hX0.md hM (by decide) (by decide)
    refine ⟨rfl, 0, rfl, F, z, Y, R, kz, cA, cE, ⟨hM, hC, by decide⟩, Nat.le_refl _, Nat.le_refl _, rfl, F, z, Y, R, kz, r, B, cA 0, cE 0, ⟨M0, hX0.2⟩, Nat.le_refl _, Nat.le_refl _, fun S19 hq => ?_⟩
    obtain ⟨p', a1, a2, hX1, hp'⟩ := hX0.nu M0 (by decide) hq
    have M1 := hX1.md hM (by decide) (by decide)
    have bad : rdA B (cA 0) (cE 0) = none → (([] : List MV) = [] ∧ mret (some .boolean) (sp_rra t F z Y R kz r B cA cE) [.inr (.inr (some t))] S (some (.inl (0 : Int32))) S19 0 0) := fun e => ⟨rfl, rt0, ⟨by rw [e]; rfl, hX1.1, fun L e9 => by rw [e] at e9; cases e9⟩, Nat.le_refl _, Nat.le_refl _⟩
    cases hv : (vint B (cE 0) (cA 0)).1 with
    | none =>
      refine ⟨fun _ => bad ?_, fun q => absurd (by decide) q⟩
      unfold rdA
      rw [hv]; rfl
    | some n =>
      have hlt := vint_lt r2.2.2.2.1 hv
      have hp9 := hp' n hv
      have hn0 : ¬ lg_cmp (oJ (some n)) 0 < 0 := fun q => by
        have := (oJ_lt (o := some n) (fun m e => by cases e; exact hlt)).1 q
        cases this
      have h256 : lg_cmp (oJ (some n)) 256 ≤ 0 ↔ n ≤ 256 := lgk (a := n) (b := 256) (by omega) (by decide)
      refine ⟨fun q => absurd q hn0, fun _ => ⟨fun q => ⟨trivial, (M1 0).1, n, n, [], p', hv, h256.1 q, Nat.zero_add _, hX1.st M1 (rK.sf 1532 0) (fun k hk => by cases hk) (fun f hf => by rw [List.mem_singleton.1 hf]; decide) (by decide) (by decide) (fun k hk => by cases hk), ⟨by rw [mI_sI, if_pos ⟨rfl, rfl⟩]; rfl, fun j hj => absurd hj (Nat.not_lt_zero j), List.nodup_nil, fun a h9 => by cases h9⟩, by rw [hp9], rfl, rfl, rfl, rfl⟩, fun q => bad ?_⟩⟩
      unfold rdA
      rw [hv]
      show (if n ≤ 256 then _ else none) = none
      rw [if_neg (fun w => q (h256.2 w))]
  · intro av S hpre pc I hI k lo st S1 cs sl h
    obtain ⟨rfl, hp⟩ := hpre
    have hm := look_in hI
    rw [List.mem_singleton] at hm
    cases hm
    obtain ⟨n, L, p, hv, hn, hLk, hX, hL, hag, rfl, rfl, rfl, rfl⟩ := h
    refine ⟨300, ?_⟩
    show ((0 ≤ (lg_cmp ((nI L.length).toInt64) (lN n)) → (isO S1 15 t ∧ (isO S1 15 t ∧ ((¬ (mI S1 1535 t) = (mI S1 1536 t) → (([] : List MV) = [] ∧ mret (some .boolean) (sp_rra t F z Y R kz r B cA cE) [.inr (.inr (some t))] S (some (.inl (0 : Int32))) S1 0 0)) ∧ ((mI S1 1535 t) = (mI S1 1536 t) → (([] : List MV) = [] ∧ mret (some .boolean) (sp_rra t F z Y R kz r B cA cE) [.inr (.inr (some t))] S (some (.inl (1 : Int32))) S1 0 0)))))) ∧ (¬ 0 ≤ (lg_cmp ((nI L.length).toInt64) (lN n)) → (0 = 0 ∧ (∃ (F_1 : Nat → Nat × Nat) (z_2 : Nat → Nat) (Y_3 : Nat → Nat → Nat) (R_4 : Rb) (kz_5 : Nat → Nat) (r_6 : Nat) (B_7 : List Nat) (p_8 q_9 : Nat), (MD S1 F_1 t z_2 Y_3 R_4 kz_5 ∧ rdP9 S1 t r_6 B_7 p_8 q_9) ∧ 0 ≤ 0 ∧ 0 ≤ 0 ∧ (∀ (S_10 : MM), (nuQ S1 S_10 t B_7 p_8 q_9) → (((lg_cmp (oJ (vint B_7 q_9 p_8).1) (0 : Int64)) < 0 → (([] : List MV) = [] ∧ mret (some .boolean) (sp_rra t F z Y R kz r B cA cE) [.inr (.inr (some t))] S (some (.inl (0 : Int32))) S_10 0 0)) ∧ (¬ (lg_cmp (oJ (vint B_7 q_9 p_8).1) (0 : Int64)) < 0 → ((0 < (lg_cmp (oJ (vint B_7 q_9 p_8).1) (255 : Int64)) → (([] : List MV) = [] ∧ mret (some .boolean) (sp_rra t F z Y R kz r B cA cE) [.inr (.inr (some t))] S (some (.inl (0 : Int32))) S_10 0 0)) ∧ (¬ 0 < (lg_cmp (oJ (vint B_7 q_9 p_8).1) (255 : Int64)) → (0 = 0 ∧ (∃ (a_11 : Nat), (oJ (vint B_7 q_9 p_8).1).toInt32 = nI a_11 ∧ (∃ (F_12 : Nat → Nat × Nat) (z_13 : Nat → Nat) (Y_14 : Nat → Nat → Nat) (R_15 : Rb) (kz_16 : Nat → Nat) (L_17 : List Nat), (MD S_10 F_12 t z_13 Y_14 R_15 kz_16 ∧ lsP S_10 t z_13 L_17 ∧ a_11 < 256 ∧ L_17.length ≤ 256) ∧ 0 ≤ 0 ∧ 0 ≤ 0 ∧ (∀ (x_19 : Int32) (S_18 : MM), (∃ j, x_19 = nI j ∧ j < (lsX L_17 a_11).length ∧ (lsX L_17 a_11).getD j 0 = a_11) ∧ (lsQ S_10 S_18 F_12 t z_13 Y_14 R_15 kz_16 L_17 a_11) → ((x_19 = (nI L.length) → (∃ k1, k1 < k ∧ I_ra t r z B cA cE S k1 [(0, .inr (.inr (some t))), (1, .inr (.inl (lN n))), (3, .inl ((nI L.length) + (1 : Int32)))] [] S_18 0 0)) ∧ (¬ x_19 = (nI L.length) → (([] : List MV) = [] ∧ mret (some .boolean) (sp_rra t F z Y R kz r B cA cE) [.inr (.inr (some t))] S (some (.inl (0 : Int32))) S_18 0 0))))))))))))))))
    obtain ⟨hM, r1, r2, hC, hc⟩ := hp
    have M1 := hX.md hM (by decide) (by decide)
    have hc0 := hc 0 (by decide)
    have hB8 : B.length ≤ 32768 := r2.2.2.1
    obtain ⟨hK, x1, x2, x3, x4, x5, x6⟩ := id hX
    have eA : rdA B (cA 0) (cE 0) = (agR B (cE 0) k L p).bind fun q => if cE 0 ≤ q.2 then some q.1 else none := by
      unfold rdA
      rw [hv]
      show (if n ≤ 256 then _ else none) = _
      rw [if_pos hn, hag]
    have bad : ∀ {S2}, rK [31] rfs S S2 t z → rdA B (cA 0) (cE 0) = none → (([] : List MV) = [] ∧ mret (some .boolean) (sp_rra t F z Y R kz r B cA cE) [.inr (.inr (some t))] S (some (.inl (0 : Int32))) S2 0 0) := fun {S2} h e => ⟨rfl, rt0, ⟨by rw [e]; rfl, h, fun L e9 => by rw [e] at e9; cases e9⟩, Nat.le_refl _, Nat.le_refl _⟩
    rw [nI_l (by omega), x3, x4]
    refine ⟨fun q => ⟨(M1 0).1, (M1 0).1, ?_⟩, fun q => ?_⟩
    · have hk0 : k = 0 := by have := (lgg (by omega) (by omega)).1 q; omega
      subst hk0
      rw [agR] at eA
      have eA : rdA B (cA 0) (cE 0) = if cE 0 ≤ p then some L else none := eA
      refine if_ne (by omega) (by omega) (fun w => bad hK (by rw [eA, if_neg (by omega)])) (fun w => ⟨rfl, rt1, ⟨by rw [eA, if_pos (by omega)]; rfl, hK, fun L' e => ?_⟩, Nat.le_refl _, Nat.le_refl _⟩)
      rw [eA, if_pos (by omega)] at e
      cases e
      exact hL
    · have hk1 : L.length < n := Nat.lt_of_not_le (fun w => q ((lgg (by omega) (by omega)).2 w))
      obtain ⟨k, rfl⟩ : ∃ k', k = k' + 1 := ⟨k - 1, by omega⟩
      refine ⟨rfl, F, z, Y, R, kz, r, B, p, cE 0, ⟨M1, hX.2⟩, Nat.le_refl _, Nat.le_refl _, fun S10 hq => ?_⟩
      obtain ⟨p', a1, a2, hX1, hp'⟩ := hX.nu M1 (by decide) hq
      have M2 := hX1.md hM (by decide) (by decide)
      have kn : rK [] [1535] S1 S10 t z := by
        obtain ⟨p9, -, -, rfl, -⟩ := hq
        exact rK.sf 1535 (nI p9)
      have hL2 : lsP S10 t z L := kn.ls M1 (fun k hk => by cases hk) (by decide) (by decide) hL
      rw [agR] at eA
      cases hv2 : (vint B (cE 0) p).1 with
      | none =>
        rw [hv2] at eA
        exact ⟨fun _ => bad hX1.1 eA, fun q => absurd (by decide) q⟩
      | some a =>
        have hlt := vint_lt r2.2.2.2.1 hv2
        have hp9 := hp' a hv2
        rw [hv2] at eA
        have eA : rdA B (cA 0) (cE 0) = (if a < 256 ∧ a ∉ L then agR B (cE 0) k (L ++ [a]) (vint B (cE 0) p).2 else none).bind fun q => if cE 0 ≤ q.2 then some q.1 else none := eA
        have hn0 : ¬ lg_cmp (oJ (some a)) 0 < 0 := fun q => by
          have := (oJ_lt (o := some a) (fun m e => by cases e; exact hlt)).1 q
          cases this
        have h255 : 0 < lg_cmp (oJ (some a)) 255 ↔ 255 < a := (lgc (a := a) (b := 255) (by omega) (by decide)).1
        refine ⟨fun q => absurd q hn0, fun _ => ⟨fun q => bad hX1.1 ?_, fun q => ?_⟩⟩
        · rw [eA, if_neg (fun w => by have := h255.1 q; omega)]; rfl
        · have ha : a < 256 := Nat.lt_of_not_le (fun w => q (h255.2 (by omega)))
          refine ⟨rfl, a, lN_32 hlt, F, z, Y, R, kz, L, ⟨M2, hL2, ha, by omega⟩, Nat.le_refl _, Nat.le_refl _, fun v S18 h => ?_⟩
          obtain ⟨⟨j, rfl, hj1, hj2⟩, hls⟩ := h
          have hj := lst_ix hL.2.2.1 hj1 hj2
          have hjl : j ≤ L.length := by rw [hj]; exact List.idxOf_le_length
          have hX2 := hX1.st M2 hls.rk (fun k hk => hk) (fun f hf => by rw [List.mem_singleton.1 hf]; decide) (by decide) (by decide) (fun k hk => by rw [List.mem_singleton.1 hk]; exact hX1.2.2.1.nz M2 (by decide) (by decide))
          refine if_eq (by omega) (by omega) (fun w => ?_) (fun w => bad hX2.1 ?_)
          · have hna : a ∉ L := fun h9 => by
              have := List.idxOf_lt_length_of_mem h9
              omega
            have ex : lsX L a = L ++ [a] := if_neg hna
            refine ⟨k, by omega, n, L ++ [a], p', hv, hn, by rw [List.length_append]; show L.length + 1 + k = n; omega, hX2, by rw [← ex]; exact hls.2.1, ?_, by rw [nI_1, List.length_append]; rfl, rfl, rfl, rfl⟩
            rw [← hag, agR, hv2, hp9]
            show _ = if a < 256 ∧ a ∉ L then _ else _
            rw [if_pos ⟨ha, hna⟩]
          · have hma : a ∈ L := Classical.byContradiction (fun h9 => w (by rw [hj]; exact List.idxOf_eq_length h9))
            rw [eA, if_neg (fun w => w.2 hma)]; rfl
theorem u_rra (l : Launch) : Us l yX14_readAgents cX14_readAgents 6 (some .boolean) 1 24 15 T_rra := by
  intro Rc Rs av S cs sl K Kx h
  unfold T_rra at h
  split at h
  · rename_i t_o
    obtain ⟨t, rfl, h_1⟩ := pa_of h
    obtain ⟨F, z, Y, R, kz, r, B, cA, cE, hp, hc, hs, hk⟩ := h_1
    refine ⟨(sp_rra t F z Y R kz r B cA cE), c_rra l t F z Y R kz r B cA cE, fun _ _ h9 => ⟨_, _, h9.1, (h9.2.1 0).1⟩, ⟨rfl, hp⟩, hc, hs, fun v9 S' h8 => by
      obtain ⟨h7, h8⟩ := h8
      cases h7
      exact hk _ h8, fun _ _ q => q.elim⟩
  · exact h.elim
