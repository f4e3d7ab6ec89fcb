/-! ===== sync ===== -/
theorem bPuts_pre : ∀ {vs : List Int32} {B : List Nat} {k : Nat}, k < B.length → (bPuts B vs).getD k 0 = B.getD k 0
  | [], B, k, _ => rfl
  | v :: vs, B, k, h => by
    have e : bPuts B (v :: vs) = bPuts (bPut B v) vs := rfl
    rw [e]
    unfold bPut
    split
    · rw [bPuts_pre (by rw [List.length_append]; omega), List.getD_eq_getElem?_getD, List.getD_eq_getElem?_getD, List.getElem?_append_left h]
    · exact bPuts_pre h
/-- a peer's summary as bytes -/
def syB (Q : Ab) (m : Nat) : List Nat := bPuts [] (sumA (Q.G m) m)
theorem syB_1 {Q : Ab} {m : Nat} : bAt (syB Q m) 1 = 2 := by
  have e : syB Q m = bPuts (bPuts [] [87, 2, nI m]) ((vbs 4 (nI (Q.G m).m) ++ sumR (Q.G m) 256) ++ sealV (crcOf (bPuts [] (sumV (Q.G m) m 256))) 4) := by
    unfold syB sumA
    rw [← bPuts_app]
    congr 1
  have e2 : bPuts [] [87, 2, nI m] = [b8 87, b8 2, b8 (nI m)] := by rw [bPuts_fit (by simp)]; rfl
  show nI ((syB Q m).getD 1 0) = 2
  rw [e, bPuts_pre (by rw [e2]; simp), e2]
  show nI (b8 2) = 2
  decide
theorem syB_u {Q : Ab} {m : Nat} : nc_dU (syB Q m) = 0 := nc_f (fun w => w.2 syB_1)
noncomputable def nc_syQ (Q : Ab) (n m : Nat) : Ab := @ite Ab (framed (syB Q m)) (Classical.propDecidable _) ((Q.sKn n (lrnK (Q.Kn n) (syB Q m))).sFt (lrF (syB Q m))) (Q.sFt 1)
theorem nc_syQ_eq {Q : Ab} {n m c : Nat} {Q1 : Ab} (h : dlv Q n (syB Q m) c Q1) : Q1 = nc_syQ Q n m := by
  unfold nc_syQ
  rcases h with ⟨h1, -, h2⟩ | ⟨h1, -, -, h2⟩ | ⟨-, h1, -⟩ | ⟨-, h1, -⟩
  · rw [if_neg h1]; exact h2
  · rw [if_pos h1]; exact h2
  · exact absurd syB_1 h1
  · exact absurd syB_1 h1
theorem nc_syQ_G {Q : Ab} {n m : Nat} : (nc_syQ Q n m).G = Q.G ∧ (nc_syQ Q n m).T = Q.T := by
  unfold nc_syQ
  by_cases h : framed (syB Q m)
  · rw [if_pos h]; exact ⟨rfl, rfl⟩
  · rw [if_neg h]; exact ⟨rfl, rfl⟩
def syK (kz : Nat → Nat) (Q : Ab) (m : Nat) : Nat → Nat := upF kz 1 (capN (sumA (Q.G m) m).length (kz 1) 0)
noncomputable def nc_syN (Q : Ab) (n m : Nat) : Nat → Nat → Nat := (nc_syQ Q n m).Kn n
/-- the patch that answers it -/
noncomputable def nc_syA (Q : Ab) (n m : Nat) : List Int32 := coA (paF (Q.G n) (nc_syN Q n m) (some m)) (nI n)
noncomputable def nc_syP (Q : Ab) (n m : Nat) : List Nat := bPuts [] (nc_syA Q n m)
noncomputable def nc_sy3 (kz : Nat → Nat) (Q : Ab) (n m : Nat) : Nat → Nat := sdK (syK kz Q m) (Q.G n) (nc_syN Q n m) (some m)
noncomputable def nc_sy4 (kz : Nat → Nat) (Q : Ab) (n m : Nat) : Nat → Nat := upF (nc_sy3 kz Q n m) 1 (capN (nc_syA Q n m).length (syK kz Q m 1) 0)
noncomputable def nc_syC (kz : Nat → Nat) (Q : Ab) (n m kC : Nat) : Nat := addNC (sumA (Q.G m) m).length (kz 1) 0 + sdC (syK kz Q m) (Q.G n) (nc_syN Q n m) (some m) + (addNC (nc_syA Q n m).length (syK kz Q m 1) 0 + nc_if (paT (Q.G n) (nc_syN Q n m) (some m) ≤ 32768) (nc_kC (nc_sy4 kz Q n m) (nc_syP Q n m) + kC) 0)
noncomputable def nc_syZ (kz : Nat → Nat) (Q : Ab) (n m kZ : Nat) : Nat := addNS (sumA (Q.G m) m).length (kz 1) 0 + sdZ (syK kz Q m) (Q.G n) (nc_syN Q n m) (some m) + (addNS (nc_syA Q n m).length (syK kz Q m 1) 0 + nc_if (paT (Q.G n) (nc_syN Q n m) (some m) ≤ 32768) (nc_kZ (nc_sy4 kz Q n m) (nc_syP Q n m) + kZ) 0)
def syBd (Q : Ab) (p x : Int32) (kC kZ : Nat) : Prop := ∀ n m, n < 4 → p = nI n → m < 4 → x = nI m → framed (nc_syP Q n m) → bAt (nc_syP Q n m) 1 ≠ 2 → ∀ L E, rdM (nc_syP Q n m) L E → brK L E (Q.G m) (Q.T m) none kC kZ
def syA (p x : Int32) (n m : Nat) : Prop := n < 4 ∧ p = nI n ∧ m < 4 ∧ x = nI m
def syR (S S' : MM) (F : Nat → Nat × Nat) (t : Nat) (kz : Nat → Nat) (Q : Ab) (n m : Nat) (φ : Nat → Prop) (c : Nat) : Prop := paT (Q.G n) (nc_syN Q n m) (some m) ≤ 32768 ∧ tkR S S' F t (nc_sy4 kz Q n m) (nc_syQ Q n m) m (nc_syP Q n m) φ id c
def I_y1 (t : Nat) (p x : Int32) (F : Nat → Nat × Nat) (X : Nat → GX) (kz : Nat → Nat) (Q : Ab) (S : MM) (k : Nat) : KT := fun lo st S1 cs sl => ∃ z n m F1 d1, k = 2 ∧ syA p x n m ∧ WTz S1 F1 t z X (syK kz Q m) Q ∧ Bt S1 F1 22 (z 1) d1 (syB Q m) (syK kz Q m 1) ∧ (∀ b, b ∈ mL S → F1 b = F b) ∧ Keep (fun b => cO (F b).1) S S1 ∧ lo = [(0, .inr (.inr (some t))), (1, .inl p), (2, .inl x), (3, .inr (.inr (some (z (30 + n))))), (4, .inr (.inr (some (z (30 + m)))))] ∧ st = [] ∧ cs = addNC (sumA (Q.G m) m).length (kz 1) 0 + 2 ∧ sl = addNS (sumA (Q.G m) m).length (kz 1) 0 + 12
def I_y2 (t : Nat) (p x : Int32) (F : Nat → Nat × Nat) (kz : Nat → Nat) (Q : Ab) (S : MM) (k : Nat) : KT := fun lo st S1 cs sl => ∃ z n m F1 X1 d1 B1, k = 1 ∧ syA p x n m ∧ WTz S1 F1 t z X1 (syK kz Q m) (nc_syQ Q n m) ∧ Bt S1 F1 22 (z 1) d1 B1 (syK kz Q m 1) ∧ (∀ b, b ∈ mL S → F1 b = F b) ∧ Keep (fun b => cO (F b).1) S S1 ∧ lo = [(0, .inr (.inr (some t))), (1, .inl p), (2, .inl x), (3, .inr (.inr (some (z (30 + n))))), (4, .inr (.inr (some (z (30 + m)))))] ∧ st = [] ∧ cs = addNC (sumA (Q.G m) m).length (kz 1) 0 + 2 ∧ sl = addNS (sumA (Q.G m) m).length (kz 1) 0 + 12
noncomputable def nc_y3C (kz : Nat → Nat) (Q : Ab) (n m : Nat) : Nat := addNC (sumA (Q.G m) m).length (kz 1) 0 + 2 + sdC (syK kz Q m) (Q.G n) (nc_syN Q n m) (some m) + addNC (nc_syA Q n m).length (syK kz Q m 1) 0
noncomputable def nc_y3Z (kz : Nat → Nat) (Q : Ab) (n m : Nat) : Nat := addNS (sumA (Q.G m) m).length (kz 1) 0 + 12 + sdZ (syK kz Q m) (Q.G n) (nc_syN Q n m) (some m) + addNS (nc_syA Q n m).length (syK kz Q m 1) 0
def I_y3 (t : Nat) (p x : Int32) (F : Nat → Nat × Nat) (kz : Nat → Nat) (Q : Ab) (S : MM) (k : Nat) : KT := fun lo st S1 cs sl => ∃ z n m F1 X1 d1, k = 0 ∧ syA p x n m ∧ paT (Q.G n) (nc_syN Q n m) (some m) ≤ 32768 ∧ WTz S1 F1 t z X1 (nc_sy4 kz Q n m) (nc_syQ Q n m) ∧ Bt S1 F1 22 (z 1) d1 (nc_syP Q n m) (nc_sy4 kz Q n m 1) ∧ (∀ b, b ∈ mL S → F1 b = F b) ∧ Keep (fun b => cO (F b).1) S S1 ∧ lo = [(0, .inr (.inr (some t))), (4, .inr (.inr (some (z (30 + m)))))] ∧ st = [] ∧ cs = nc_y3C kz Q n m ∧ sl = nc_y3Z kz Q n m
def T_wsy : TR := fun Rc Rs av S cs sl K Kx => match av with
  | [.inr (.inr t_o), .inl p, .inl x] => pa t_o fun t => (∃ (F : Nat → Nat × Nat) (X : Nat → GX) (kz : Nat → Nat) (Q : Ab) (kC kZ : Nat), (WT S F t X kz Q ∧ syBd Q p x kC kZ) ∧ cs + (nc_syC kz Q p.toNatClampNeg x.toNatClampNeg kC + 4) ≤ Rc ∧ sl + (nc_syZ kz Q p.toNatClampNeg x.toNatClampNeg kZ + 24) ≤ Rs ∧ ((∀ (v : Int32) (S' : MM), (∃ n m c, syA p x n m ∧ v = nI c ∧ c ≤ 8192 ∧ syR S S' F t kz Q n m (fun f => f = 0) c) → K (some (.inl v)) S' (cs + (nc_syC kz Q p.toNatClampNeg x.toNatClampNeg kC + 4)) (sl + (nc_syZ kz Q p.toNatClampNeg x.toNatClampNeg kZ + 24))) ∧ ((np 4 p ∨ np 4 x) → Kx 1 S (cs + (nc_syC kz Q p.toNatClampNeg x.toNatClampNeg kC + 4)) (sl + (nc_syZ kz Q p.toNatClampNeg x.toNatClampNeg kZ + 24))) ∧ (∀ (S' : MM), (∃ (n m : Nat) (X1 : Nat → GX), syA p x n m ∧ 32768 < paT (Q.G n) (nc_syN Q n m) (some m) ∧ wtQ S S' F t X1 (nc_sy4 kz Q n m) (nc_syQ Q n m)) → Kx 0 S' (cs + (nc_syC kz Q p.toNatClampNeg x.toNatClampNeg kC + 4)) (sl + (nc_syZ kz Q p.toNatClampNeg x.toNatClampNeg kZ + 24))) ∧ (∀ (S' : MM), (∃ n m c, syA p x n m ∧ syR S S' F t kz Q n m (fun f => f = 5) c) → Kx 2 S' (cs + (nc_syC kz Q p.toNatClampNeg x.toNatClampNeg kC + 4)) (sl + (nc_syZ kz Q p.toNatClampNeg x.toNatClampNeg kZ + 24))) ∧ (∀ (S' : MM), (∃ n m c, syA p x n m ∧ syR S S' F t kz Q n m (fun f => f = 6) c) → Kx 3 S' (cs + (nc_syC kz Q p.toNatClampNeg x.toNatClampNeg kC + 4)) (sl + (nc_syZ kz Q p.toNatClampNeg x.toNatClampNeg kZ + 24))) ∧ (∀ (S' : MM), (∃ n m c, syA p x n m ∧ syR S S' F t kz Q n m (fun f => f = 7) c) → Kx 0 S' (cs + (nc_syC kz Q p.toNatClampNeg x.toNatClampNeg kC + 4)) (sl + (nc_syZ kz Q p.toNatClampNeg x.toNatClampNeg kZ + 24))) ∧ (∀ (S' : MM), (∃ n m c, syA p x n m ∧ syR S S' F t kz Q n m (fun f => 1 ≤ f ∧ f ≤ 4) c) → Kx 1 S' (cs + (nc_syC kz Q p.toNatClampNeg x.toNatClampNeg kC + 4)) (sl + (nc_syZ kz Q p.toNatClampNeg x.toNatClampNeg kZ + 24)))))
  | _ => False
noncomputable def sp_wsy (t : Nat) (p : Int32) (x : Int32) (F : Nat → Nat × Nat) (X : Nat → GX) (kz : Nat → Nat) (Q : Ab) (kC kZ : Nat) : Sp := (fun av S => av = [.inr (.inr (some t)), .inl p, .inl x] ∧ (WT S F t X kz Q ∧ syBd Q p x kC kZ), fun _ S => nc_syC kz Q p.toNatClampNeg x.toNatClampNeg kC + 4, fun _ S => nc_syZ kz Q p.toNatClampNeg x.toNatClampNeg kZ + 24, fun _ S rv S' => ∃ v, rv = (some (.inl v)) ∧ (∃ n m c, syA p x n m ∧ v = nI c ∧ c ≤ 8192 ∧ syR S S' F t kz Q n m (fun f => f = 0) c), fun _ S E S' => (E = 1 ∧ (np 4 p ∨ np 4 x) ∧ S' = S) ∨ (E = 0 ∧ (∃ (n m : Nat) (X1 : Nat → GX), syA p x n m ∧ 32768 < paT (Q.G n) (nc_syN Q n m) (some m) ∧ wtQ S S' F t X1 (nc_sy4 kz Q n m) (nc_syQ Q n m))) ∨ (E = 2 ∧ (∃ n m c, syA p x n m ∧ syR S S' F t kz Q n m (fun f => f = 5) c)) ∨ (E = 3 ∧ (∃ n m c, syA p x n m ∧ syR S S' F t kz Q n m (fun f => f = 6) c)) ∨ (E = 0 ∧ (∃ n m c, syA p x n m ∧ syR S S' F t kz Q n m (fun f => f = 7) c)) ∨ (E = 1 ∧ (∃ n m c, syA p x n m ∧ syR S S' F t kz Q n m (fun f => 1 ≤ f ∧ f ≤ 4) c)))
def tX11_sync : CD := [(0, .aload_n 0), (1, .iload_n 1), (2, .invokevirtual 108), (5, .astore_n 3), (6, .aload_n 0), (7, .iload_n 2), (8, .invokevirtual 108), (11, .astore 4), (13, .aload 4), (15, .aload_n 0), (16, .getfield 16), (19, .invokevirtual 246), (22, .aload_n 0), (23, .aload_n 3), (24, .aload_n 0), (25, .getfield 16), (28, .invokevirtual 264), (31, .pop), (32, .aload_n 0), (33, .getfield 77), (36, .aload_n 3), (37, .iload_n 2), (38, .invokevirtual 250), (41, .aload_n 0), (42, .getfield 77), (45, .aload_n 0), (46, .getfield 16), (49, .iload_n 1), (50, .invokevirtual 254), (53, .aload_n 0), (54, .getfield 16), (57, .getfield 258), (60, .ifCond .eq 11), (63, .new 98), (66, .dup), (67, .invokespecial 100), (70, .athrow), (71, .aload_n 0), (72, .aload 4), (74, .aload_n 0), (75, .getfield 16), (78, .invokevirtual 264), (81, .istore 5), (83, .aload_n 0), (84, .invokevirtual 268), (87, .iload 5), (89, .ireturn)]
set_option maxRecDepth 100000 in
theorem kX11_sync : chk cX11_sync tX11_sync = true := by decide +kernel
theorem vX11_sync_108 : ∀ w ∈ ([.methodLink RX11 108 yX11_peerOf, .instanceMethod yX11_peerOf, .selects yX11_peerOf.cls yX11_peerOf yX11_peerOf, .initialized yX11_peerOf.cls, .code yX11_peerOf cX11_peerOf 2 (some (.object "WeaveText$Peer"))] : List Cond), w ∈ lw_good := List.forall_mem_cons.mpr ⟨mgd 827 (by decide +kernel) (by decide +kernel), List.forall_mem_cons.mpr ⟨mgd 829 (by decide +kernel) (by decide +kernel), List.forall_mem_cons.mpr ⟨mgd 1 (by decide +kernel) (by decide +kernel), List.forall_mem_cons.mpr ⟨mgd 121 (by decide +kernel) (by decide +kernel), List.forall_mem_cons.mpr ⟨mgd 830 (by decide +kernel) (by decide +kernel), fun _ h => absurd h List.not_mem_nil⟩⟩⟩⟩⟩
theorem vX11_sync_246 : ∀ w ∈ ([.methodLink RX11 246 yX10_writeSummary, .instanceMethod yX10_writeSummary, .selects yX10_writeSummary.cls yX10_writeSummary yX10_writeSummary, .initialized yX10_writeSummary.cls, .code yX10_writeSummary cX10_writeSummary 4 none] : List Cond), w ∈ lw_good := List.forall_mem_cons.mpr ⟨mgd 1331 (by decide +kernel) (by decide +kernel), List.forall_mem_cons.mpr ⟨mgd 1332 (by decide +kernel) (by decide +kernel), List.forall_mem_cons.mpr ⟨mgd 1333 (by decide +kernel) (by decide +kernel), List.forall_mem_cons.mpr ⟨mgd 124 (by decide +kernel) (by decide +kernel), List.forall_mem_cons.mpr ⟨mgd 1334 (by decide +kernel) (by decide +kernel), fun _ h => absurd h List.not_mem_nil⟩⟩⟩⟩⟩
theorem vX11_sync_264 : ∀ w ∈ ([.methodLink RX11 264 yX11_deliver, .instanceMethod yX11_deliver, .selects yX11_deliver.cls yX11_deliver yX11_deliver, .initialized yX11_deliver.cls, .code yX11_deliver cX11_deliver 4 (some .int)] : List Cond), w ∈ lw_good := List.forall_mem_cons.mpr ⟨mgd 1460 (by decide +kernel) (by decide +kernel), List.forall_mem_cons.mpr ⟨mgd 1462 (by decide +kernel) (by decide +kernel), List.forall_mem_cons.mpr ⟨mgd 36 (by decide +kernel) (by decide +kernel), List.forall_mem_cons.mpr ⟨mgd 121 (by decide +kernel) (by decide +kernel), List.forall_mem_cons.mpr ⟨mgd 1463 (by decide +kernel) (by decide +kernel), fun _ h => absurd h List.not_mem_nil⟩⟩⟩⟩⟩
theorem vX11_sync_250 : ∀ w ∈ ([.methodLink RX11 250 yX9_gather, .instanceMethod yX9_gather, .selects yX9_gather.cls yX9_gather yX9_gather, .initialized yX9_gather.cls, .code yX9_gather cX9_gather 6 none] : List Cond), w ∈ lw_good := List.forall_mem_cons.mpr ⟨mgd 1362 (by decide +kernel) (by decide +kernel), List.forall_mem_cons.mpr ⟨mgd 1363 (by decide +kernel) (by decide +kernel), List.forall_mem_cons.mpr ⟨mgd 1364 (by decide +kernel) (by decide +kernel), List.forall_mem_cons.mpr ⟨mgd 133 (by decide +kernel) (by decide +kernel), List.forall_mem_cons.mpr ⟨mgd 1365 (by decide +kernel) (by decide +kernel), fun _ h => absurd h List.not_mem_nil⟩⟩⟩⟩⟩
theorem vX11_sync_254 : ∀ w ∈ ([.methodLink RX11 254 yX9_compose, .instanceMethod yX9_compose, .selects yX9_compose.cls yX9_compose yX9_compose, .initialized yX9_compose.cls, .code yX9_compose cX9_compose 3 none] : List Cond), w ∈ lw_good := List.forall_mem_cons.mpr ⟨mgd 1440 (by decide +kernel) (by decide +kernel), List.forall_mem_cons.mpr ⟨mgd 1441 (by decide +kernel) (by decide +kernel), List.forall_mem_cons.mpr ⟨mgd 1442 (by decide +kernel) (by decide +kernel), List.forall_mem_cons.mpr ⟨mgd 133 (by decide +kernel) (by decide +kernel), List.forall_mem_cons.mpr ⟨mgd 1443 (by decide +kernel) (by decide +kernel), fun _ h => absurd h List.not_mem_nil⟩⟩⟩⟩⟩
theorem vX11_sync_268 : ∀ w ∈ ([.methodLink RX11 268 yX11_raiseFault, .instanceMethod yX11_raiseFault, .selects yX11_raiseFault.cls yX11_raiseFault yX11_raiseFault, .initialized yX11_raiseFault.cls, .code yX11_raiseFault cX11_raiseFault 1 none] : List Cond), w ∈ lw_good := List.forall_mem_cons.mpr ⟨mgd 1582 (by decide +kernel) (by decide +kernel), List.forall_mem_cons.mpr ⟨mgd 1584 (by decide +kernel) (by decide +kernel), List.forall_mem_cons.mpr ⟨mgd 48 (by decide +kernel) (by decide +kernel), List.forall_mem_cons.mpr ⟨mgd 121 (by decide +kernel) (by decide +kernel), List.forall_mem_cons.mpr ⟨mgd 1585 (by decide +kernel) (by decide +kernel), fun _ h => absurd h List.not_mem_nil⟩⟩⟩⟩⟩
set_option maxRecDepth 100000 in
set_option maxHeartbeats 2000000 in
theorem c_wsy (l : Launch) (hlt : l.stackTraces = false) : ∀ (t : Nat) (p : Int32) (x : Int32) (F : Nat → Nat × Nat) (X : Nat → GX) (kz : Nat → Nat) (Q : Ab) (kC kZ : Nat), CtX l yX11_sync (Cond.code yX11_sync cX11_sync 6 (some .int)) (some .int) 11 271 (sp_wsy t p x F X kz Q kC kZ) := by
  intro t p x F X kz Q kC kZ
  refine CtX.of hlt (fX11, nX11, aX11, iX11, lX11, [(108, 0, 2, 3, T_wpo), (246, 0, 2, 0, T_pws), (264, 0, 3, 1, T_wdv), (250, 0, 3, 0, T_wga), (254, 0, 3, 0, T_wco), (268, 0, 1, 0, T_wrf)], qX11, gX11, thX11) false tX11_sync (fun _ S => look [(22, ([0,1,2,3,4], I_y1 t p x F X kz Q S)), (32, ([0,1,2,3,4], I_y2 t p x F kz Q S)), (71, ([0,4], I_y3 t p x F kz Q S))]) (by decide) (by decide) kX11_sync ⟨_, _, rfl⟩ fX11_ok nX11_ok aX11_ok iX11_ok lX11_ok (fun p e R s m args below meth c Q D cy z r A C hR1 hR2 => List.forall_mem_cons.mpr ⟨cOK_use (fun _ _ _ _ _ _ _ _ h => let ⟨sp, h1, h2, h3⟩ := u_wpo l hlt _ _ _ _ _ _ _ _ h; ⟨sp, cOKx_V C h1 vX11_sync_108 ⟨by decide, by decide, by decide +kernel⟩ ⟨by rw [hR1]; decide, by rw [hR2]; decide⟩ (k := 12) (T := TX11) (N := 15) rfl (by decide) h2, h3⟩), List.forall_mem_cons.mpr ⟨cOK_use (fun _ _ _ _ _ _ _ _ h => let ⟨sp, h1, h2, h3⟩ := u_pws l _ _ _ _ _ _ _ _ h; ⟨sp, cOK_V C h1 vX11_sync_246 ⟨by decide, by decide, by decide +kernel⟩ ⟨by rw [hR1]; decide, by rw [hR2]; decide⟩ (k := 11) (T := TX10) (N := 6) rfl (by decide) h2, h3⟩), List.forall_mem_cons.mpr ⟨cOK_use (fun _ _ _ _ _ _ _ _ h => let ⟨sp, h1, h2, h3⟩ := u_wdv l _ _ _ _ _ _ _ _ h; ⟨sp, cOK_V C h1 vX11_sync_264 ⟨by decide, by decide, by decide +kernel⟩ ⟨by rw [hR1]; decide, by rw [hR2]; decide⟩ (k := 12) (T := TX11) (N := 15) rfl (by decide) h2, h3⟩), List.forall_mem_cons.mpr ⟨cOK_use (fun _ _ _ _ _ _ _ _ h => let ⟨sp, h1, h2, h3⟩ := u_wga l _ _ _ _ _ _ _ _ h; ⟨sp, cOK_V C h1 vX11_sync_250 ⟨by decide, by decide, by decide +kernel⟩ ⟨by rw [hR1]; decide, by rw [hR2]; decide⟩ (k := 10) (T := TX9) (N := 15) rfl (by decide) h2, h3⟩), List.forall_mem_cons.mpr ⟨cOK_use (fun _ _ _ _ _ _ _ _ h => let ⟨sp, h1, h2, h3⟩ := u_wco l _ _ _ _ _ _ _ _ h; ⟨sp, cOK_V C h1 vX11_sync_254 ⟨by decide, by decide, by decide +kernel⟩ ⟨by rw [hR1]; decide, by rw [hR2]; decide⟩ (k := 10) (T := TX9) (N := 15) rfl (by decide) h2, h3⟩), List.forall_mem_cons.mpr ⟨cOK_use (fun _ _ _ _ _ _ _ _ h => let ⟨sp, h1, h2, h3⟩ := u_wrf l hlt _ _ _ _ _ _ _ _ h; ⟨sp, cOKx_V C h1 vX11_sync_268 ⟨by decide, by decide, by decide +kernel⟩ ⟨by rw [hR1]; decide, by rw [hR2]; decide⟩ (k := 12) (T := TX11) (N := 15) rfl (by decide) h2, h3⟩), fun _ h => absurd h List.not_mem_nil⟩⟩⟩⟩⟩⟩) qX11_ok gX11_ok (fun q hq => ⟨thX11_ok q hq, by decide, by decide⟩) ?_ ?_
  · rintro _ S ⟨rfl, hp⟩
    refine ⟨Nat.le_of_ble_eq_true rfl, 300, ?_⟩
    show (0 = 0 ∧ (∃ (F_1 : Nat → Nat × Nat) (z_2 : Nat → Nat), (SfA S F_1 t z_2) ∧ 0 + 1 ≤ nc_syC kz Q p.toNatClampNeg x.toNatClampNeg kC + 4 ∧ 0 + 6 ≤ nc_syZ kz Q p.toNatClampNeg x.toNatClampNeg kZ + 24 ∧ ((∀ (x_4 : Option Nat) (S_3 : MM), (S_3 = S ∧ ∃ n, n < 4 ∧ p = nI n ∧ x_4 = some (z_2 (30 + n))) → (0 = 0 ∧ (∃ (F_5 : Nat → Nat × Nat) (z_6 : Nat → Nat), (SfA S_3 F_5 t z_6) ∧ 0 + 1 + 1 ≤ nc_syC kz Q p.toNatClampNeg x.toNatClampNeg kC + 4 ∧ 0 + 6 + 6 ≤ nc_syZ kz Q p.toNatClampNeg x.toNatClampNeg kZ + 24 ∧ ((∀ (x_8 : Option Nat) (S_7 : MM), (S_7 = S_3 ∧ ∃ n, n < 4 ∧ x = nI n ∧ x_8 = some (z_6 (30 + n))) → (isO S_7 12 t ∧ (0 = 0 ∧ ((pa x_8 fun a_9 => ((pa (mR S_7 1201 t) fun a_10 => (∃ (F_11 : Nat → Nat × Nat) (i_12 p_13 : Nat) (A_14 : Nat → Nat) (X_15 : GX) (G_16 : Gr) (T_17 : Tr) (H_18 : List Nat) (W_19 : Nat → Nat) (d_20 : Nat) (B_21 : List Nat), (wsP S_7 F_11 i_12 a_9 a_10 p_13 A_14 X_15 G_16 T_17 H_18 W_19 d_20 B_21) ∧ 0 + 1 + 1 + (addNC (sumA G_16 p_13).length (mN S_7 d_20) 0) ≤ nc_syC kz Q p.toNatClampNeg x.toNatClampNeg kC + 4 ∧ 0 + 6 + 6 + (addNS (sumA G_16 p_13).length (mN S_7 d_20) 0) ≤ nc_syZ kz Q p.toNatClampNeg x.toNatClampNeg kZ + 24 ∧ (∀ (S_22 : MM), (∃ d', App (clr S_7 a_10) S_22 a_10 d_20 d' [] (sumA G_16 p_13)) → (∃ k1, I_y1 t p x F X kz Q S k1 [(0, .inr (.inr (some t))), (1, .inl p), (2, .inl x), (3, .inr (.inr x_4)), (4, .inr (.inr x_8))] [] S_22 (0 + 1 + 1 + (addNC (sumA G_16 p_13).length (mN S_7 d_20) 0)) (0 + 6 + 6 + (addNS (sumA G_16 p_13).length (mN S_7 d_20) 0)))))))))))) ∧ ((np 4 x) → mthr (sp_wsy t p x F X kz Q kC kZ) [.inr (.inr (some t)), .inl p, .inl x] S 1 S_3 (0 + 1 + 1) (0 + 6 + 6)))))) ∧ ((np 4 p) → mthr (sp_wsy t p x F X kz Q kC kZ) [.inr (.inr (some t)), .inl p, .inl x] S 1 S (0 + 1) (0 + 6)))))
    obtain ⟨⟨z, hz⟩, hK⟩ := hp
    refine ⟨rfl, F, z, hz.1.1, by omega, by omega, fun v S3 h => ?_, fun h => ⟨Or.inl ⟨rfl, Or.inl h, rfl⟩, by show _ ≤ nc_syC kz Q p.toNatClampNeg x.toNatClampNeg kC + 4; omega, by show _ ≤ nc_syZ kz Q p.toNatClampNeg x.toNatClampNeg kZ + 24; omega⟩⟩
    obtain ⟨rfl, n, hn, hpn, rfl⟩ := h
    refine ⟨rfl, F, z, hz.1.1, by omega, by omega, fun v S4 h => ?_, fun h => ⟨Or.inl ⟨rfl, Or.inr h, rfl⟩, by show _ ≤ nc_syC kz Q p.toNatClampNeg x.toNatClampNeg kC + 4; omega, by show _ ≤ nc_syZ kz Q p.toNatClampNeg x.toNatClampNeg kZ + 24; omega⟩⟩
    obtain ⟨rfl, m, hm4, hxm, rfl⟩ := h
    have cn : p.toNatClampNeg = n := by rw [hpn]; exact nI_clamp (by omega)
    have cm : x.toNatClampNeg = m := by rw [hxm]; exact nI_clamp (by omega)
    rw [cn, cm]
    obtain ⟨A, H, W, r, a', d9, ea, kn, kr, cu, hP⟩ := hz.2.1 m hm4
    obtain ⟨dd, B0, hB⟩ := hz.2.2.2.1
    have r1 : mR S4 1201 t = some (z 1) := hz.1.1.2.2.1 1 (by decide) (by decide) (by decide) (by decide)
    have eC : addNC (sumA (Q.G m) m).length (kz 1) 0 ≤ nc_syC kz Q n m kC := by unfold nc_syC; omega
    have eZ : addNS (sumA (Q.G m) m).length (kz 1) 0 ≤ nc_syZ kz Q n m kZ := by unfold nc_syZ; omega
    refine ⟨hz.1.1.1, rfl, pa_i rfl (pa_i r1 ⟨F, m + 1, m, A, X m, Q.G m, Q.T m, H, W, dd, B0, ⟨hP.1.1, hP.1.2.2.1, hP.1.2.2.2.1, hP.gi, hz.fo, by omega, hB.1, ?_, ?_⟩, ?_, ?_, fun S5 h5 => ?_⟩)⟩
    · rw [hB.2.1]; show 22 ≠ m + 1; omega
    · rw [hB.2.2.1]; show 22 ≠ m + 1; omega
    · rw [hB.2.2.2]; omega
    · rw [hB.2.2.2]; omega
    · rw [hB.2.2.2]
      obtain ⟨d5, h5⟩ := h5
      obtain ⟨F', g1, g2, g3, g4⟩ := App.ownC hB hz.fo (by decide) h5
      have b1 : Bt S5 F' 22 (z 1) d5 (syB Q m) (syK kz Q m 1) := by unfold syK; rw [upF_s]; exact g1
      exact ⟨2, z, n, m, F', d5, rfl, ⟨hn, hpn, hm4, hxm⟩, hz.wire ⟨d5, _, b1⟩ (fun k hk => upF_o hk) g4 g2 g3, b1, g2, g4.mono (fun b _ e => by show cO (F b).1; rw [e]; exact ⟨by decide, by decide⟩), rfl, rfl, by omega, by omega⟩
  · intro av S hpre pc I hI k lo st S1 cs sl h
    obtain ⟨rfl, hp⟩ := hpre
    have hm := look_in hI
    simp only [List.mem_cons, List.not_mem_nil, or_false] at hm
    rcases hm with hm | hm | hm
    · cases hm
      obtain ⟨z, n, m, F1, d1, rfl, hA, hz, hB, hf1, hk1, rfl, rfl, rfl, rfl⟩ := h
      refine ⟨300, ?_⟩
      show (isO S1 12 t ∧ (0 = 0 ∧ ((pa (mR S1 1201 t) fun a_1 => (∃ (F_2 : Nat → Nat × Nat) (z_3 : Nat → Nat) (X_4 : Nat → GX) (kz_5 : Nat → Nat) (Q_6 : Ab) (n_7 j_8 d_9 : Nat) (B_10 : List Nat) (nn_11 kC_12 kZ_13 : Nat), (dvP S1 F_2 t z_3 X_4 kz_5 Q_6 n_7 j_8 (z (30 + n)) a_1 d_9 B_10 nn_11 kC_12 kZ_13) ∧ addNC (sumA (Q.G m) m).length (kz 1) 0 + 2 + (addNC (nc_dU B_10) (kz_5 45) 0 + kC_12) ≤ nc_syC kz Q p.toNatClampNeg x.toNatClampNeg kC + 4 ∧ addNS (sumA (Q.G m) m).length (kz 1) 0 + 12 + (addNS (nc_dU B_10) (kz_5 45) 0 + kZ_13) ≤ nc_syZ kz Q p.toNatClampNeg x.toNatClampNeg kZ + 24 ∧ (∀ (x_15 : Int32) (S_14 : MM), (dvQ S1 S_14 F_2 t z_3 kz_5 Q_6 n_7 j_8 B_10 x_15) → (∃ k1, k1 < 2 ∧ I_y2 t p x F kz Q S k1 [(0, .inr (.inr (some t))), (1, .inl p), (2, .inl x), (3, .inr (.inr (some (z (30 + n))))), (4, .inr (.inr (some (z (30 + m)))))] [] S_14 (addNC (sumA (Q.G m) m).length (kz 1) 0 + 2 + (addNC (nc_dU B_10) (kz_5 45) 0 + kC_12)) (addNS (sumA (Q.G m) m).length (kz 1) 0 + 12 + (addNS (nc_dU B_10) (kz_5 45) 0 + kZ_13)))))))))
      obtain ⟨hn, hpn, hm4, hxm⟩ := id hA
      have cn : p.toNatClampNeg = n := by rw [hpn]; exact nI_clamp (by omega)
      have cm : x.toNatClampNeg = m := by rw [hxm]; exact nI_clamp (by omega)
      rw [cn, cm]
      have r1 : mR S1 1201 t = some (z 1) := hz.1.1.2.2.1 1 (by decide) (by decide) (by decide) (by decide)
      have eC : addNC (sumA (Q.G m) m).length (kz 1) 0 ≤ nc_syC kz Q n m kC := by unfold nc_syC; omega
      have eZ : addNS (sumA (Q.G m) m).length (kz 1) 0 ≤ nc_syZ kz Q n m kZ := by unfold nc_syZ; omega
      have u0 : addNC (nc_dU (syB Q m)) (syK kz Q m 45) 0 = 0 := by rw [syB_u]; rfl
      have u1 : addNS (nc_dU (syB Q m)) (syK kz Q m 45) 0 = 0 := by rw [syB_u]; rfl
      refine ⟨hz.1.1.1, rfl, pa_i r1 ⟨F1, z, X, syK kz Q m, Q, n, 22, d1, syB Q m, syK kz Q m 1, 0, 0, ⟨hz, hn, rfl, hB, Or.inr (Or.inl rfl), fun _ w => absurd syB_1 w⟩, by rw [u0]; omega, by rw [u1]; omega, fun v S4 h4 => ?_⟩⟩
      obtain ⟨c, F4, X4, Q4, rfl, hc8, hd, w1, w2, w3⟩ := h4
      have e4 := nc_syQ_eq hd
      subst e4
      have ek : upF (syK kz Q m) 45 (capN (nc_dU (syB Q m)) (syK kz Q m 45) 0) = syK kz Q m := by
        rw [syB_u]
        funext l
        by_cases c : l = 45
        · rw [c, upF_s]; rfl
        · rw [upF_o c]
      rw [ek] at w1
      have hB4 : Bt S4 F4 22 (z 1) d1 (syB Q m) (syK kz Q m 1) := hB.keep w3 (fun b e w => w.2 e) w2
      rw [u0, u1]
      exact ⟨1, by decide, z, n, m, F4, X4, d1, syB Q m, rfl, hA, w1, hB4, fun b hb => (w2 b (hk1.1 b hb).1).trans (hf1 b hb), hk1.trN w3 (fun b hb w => by show cO (F b).1; rw [← hf1 b hb]; exact w.1), rfl, rfl, rfl, rfl⟩
    · cases hm
      obtain ⟨z, n, m, F1, X1, d1, B1, rfl, hA, hz, hB, hf1, hk1, rfl, rfl, rfl, rfl⟩ := h
      refine ⟨300, ?_⟩
      show (isO S1 12 t ∧ (0 = 0 ∧ ((pa (mR S1 1204 t) fun a_1 => (∃ (F_2 : Nat → Nat × Nat) (j_3 pk_4 pl_5 me_6 : Nat) (a_7 d_8 : Nat → Nat) (V_9 : Nat → List Int32) (cap_10 : Nat → Nat) (M_11 : List Nat) (i_12 : Nat) (A_13 : Nat → Nat) (X_14 : GX) (G_15 : Gr) (T_16 : Tr) (H_17 : List Nat) (W_18 : Nat → Nat) (kn_19 : Nat) (kr_20 : Nat → Nat) (Kn_21 : Nat → Nat → Nat) (oo_22 : Option Nat), (gaQr S1 F_2 j_3 a_1 pk_4 pl_5 me_6 a_7 d_8 V_9 cap_10 M_11 i_12 A_13 X_14 G_15 T_16 H_17 W_18 (z (30 + n)) kn_19 kr_20 Kn_21 oo_22 x) ∧ addNC (sumA (Q.G m) m).length (kz 1) 0 + 2 + (gaC G_15 Kn_21 oo_22 V_9 cap_10 (mN S1 (a_7 7))) ≤ nc_syC kz Q p.toNatClampNeg x.toNatClampNeg kC + 4 ∧ addNS (sumA (Q.G m) m).length (kz 1) 0 + 12 + (gaZ G_15 Kn_21 oo_22 V_9 cap_10 (mN S1 (a_7 7))) ≤ nc_syZ kz Q p.toNatClampNeg x.toNatClampNeg kZ + 24 ∧ (∀ (S_23 : MM), (gaQ S1 S_23 F_2 j_3 a_1 pk_4 pl_5 me_6 a_7 V_9 cap_10 G_15 Kn_21 oo_22) → (isO S_23 12 t ∧ (isO S_23 12 t ∧ (0 = 0 ∧ ((pa (mR S_23 1204 t) fun a_24 => ((pa (mR S_23 1201 t) fun a_25 => (∃ (F_26 : Nat → Nat × Nat) (j_27 pk_28 pl_29 me_30 : Nat) (a_31 d_32 : Nat → Nat) (V_33 : Nat → List Int32) (cap_34 : Nat → Nat) (M_35 : List Nat) (d0_36 : Nat) (B0_37 : List Nat), (coR S_23 F_26 j_27 a_24 pk_28 pl_29 me_30 a_31 d_32 V_33 cap_34 M_35 a_25 d0_36 B0_37) ∧ addNC (sumA (Q.G m) m).length (kz 1) 0 + 2 + (gaC G_15 Kn_21 oo_22 V_9 cap_10 (mN S1 (a_7 7))) + (addNC (coA V_33 p).length (mN S_23 d0_36) 0) ≤ nc_syC kz Q p.toNatClampNeg x.toNatClampNeg kC + 4 ∧ addNS (sumA (Q.G m) m).length (kz 1) 0 + 12 + (gaZ G_15 Kn_21 oo_22 V_9 cap_10 (mN S1 (a_7 7))) + (addNS (coA V_33 p).length (mN S_23 d0_36) 0) ≤ nc_syZ kz Q p.toNatClampNeg x.toNatClampNeg kZ + 24 ∧ (∀ (S_38 : MM), (∃ d', App (clr S_23 a_25) S_38 a_25 d0_36 d' [] (coA V_33 p)) → (isO S_38 12 t ∧ (pa (mR S_38 1201 t) fun a_39 => isO S_38 2 a_39 ∧ (((mI S_38 202 a_39) = 0 → (∃ k1, k1 < 1 ∧ I_y3 t p x F kz Q S k1 [(0, .inr (.inr (some t))), (4, .inr (.inr (some (z (30 + m)))))] [] S_38 (addNC (sumA (Q.G m) m).length (kz 1) 0 + 2 + (gaC G_15 Kn_21 oo_22 V_9 cap_10 (mN S1 (a_7 7))) + (addNC (coA V_33 p).length (mN S_23 d0_36) 0)) (addNS (sumA (Q.G m) m).length (kz 1) 0 + 12 + (gaZ G_15 Kn_21 oo_22 V_9 cap_10 (mN S1 (a_7 7))) + (addNS (coA V_33 p).length (mN S_23 d0_36) 0)))) ∧ (¬ (mI S_38 202 a_39) = 0 → (mthr (sp_wsy t p x F X kz Q kC kZ) [.inr (.inr (some t)), .inl p, .inl x] S 0 S_38 (addNC (sumA (Q.G m) m).length (kz 1) 0 + 2 + (gaC G_15 Kn_21 oo_22 V_9 cap_10 (mN S1 (a_7 7))) + (addNC (coA V_33 p).length (mN S_23 d0_36) 0) + 1) (addNS (sumA (Q.G m) m).length (kz 1) 0 + 12 + (gaZ G_15 Kn_21 oo_22 V_9 cap_10 (mN S1 (a_7 7))) + (addNS (coA V_33 p).length (mN S_23 d0_36) 0) + 6)))))))))))))))))))))
      obtain ⟨hn, hpn, hm4, hxm⟩ := id hA
      have cn : p.toNatClampNeg = n := by rw [hpn]; exact nI_clamp (by omega)
      have cm : x.toNatClampNeg = m := by rw [hxm]; exact nI_clamp (by omega)
      rw [cn, cm]
      obtain ⟨A, H, W, r, a', d9, ea, kn, kr, cu, hP⟩ := hz.2.1 n hn
      rw [nc_syQ_G.1, nc_syQ_G.2] at hP
      obtain ⟨pl, me, a, d, V, cap, hW, hWn, hWo⟩ := hz.2.2.2.2.2.1
      have wc := hW.2.2.2.2.2.2.2.2.2.1
      have hK : ∀ k, k < 6 → capN (V k).length (cap k) 0 = syK kz Q m (40 + k) := fun k hk => (wc k hk).2.2.2.2.symm.trans (hWn k hk)
      have r4 : mR S1 1204 t = some (z 4) := hz.1.1.2.2.1 4 (by decide) (by decide) (by decide) (by decide)
      have nf : ∀ {b u v}, F1 b = (u, v) → u ≠ 23 → (F1 b).1 ≠ 23 := fun {b u v} e hu w => hu (by rw [e] at w; exact w)
      have gq : gaQr S1 F1 23 (z 4) (z 6) pl me a d V cap [] (n + 1) A (X1 n) (Q.G n) (Q.T n) H W (z (30 + n)) kn kr (nc_syN Q n m) (some m) x := ⟨⟨hW, hP.gi, by omega, by omega⟩, hP.1.1, hP.1.2.2.2.1, hP.2.2.2.1, nf hP.1.2.1 (by omega), nf hP.2.2.2.2.2.2.1 (by omega), fun q hq => nf (hP.2.2.2.2.2.2.2.1 q hq) (by omega), hxm, fun q e => by cases e; exact hm4⟩
      obtain ⟨c1, c2⟩ := ga_cost (G := Q.G n) (Kn := nc_syN Q n m) (o := some m) hK
      have cst : ∀ a d : Nat, a ≤ nc_syC kz Q n m kC + 4 → d ≤ nc_syZ kz Q n m kZ + 24 → a ≤ (sp_wsy t p x F X kz Q kC kZ).2.1 [.inr (.inr (some t)), .inl p, .inl x] S ∧ d ≤ (sp_wsy t p x F X kz Q kC kZ).2.2.1 [.inr (.inr (some t)), .inl p, .inl x] S := fun a d h1 h2 => ⟨by show a ≤ nc_syC kz Q p.toNatClampNeg x.toNatClampNeg kC + 4; rw [cn, cm]; exact h1, by show d ≤ nc_syZ kz Q p.toNatClampNeg x.toNatClampNeg kZ + 24; rw [cn, cm]; exact h2⟩
      have eC : addNC (sumA (Q.G m) m).length (kz 1) 0 + sdC (syK kz Q m) (Q.G n) (nc_syN Q n m) (some m) ≤ nc_syC kz Q n m kC := by unfold nc_syC; omega
      have eZ : addNS (sumA (Q.G m) m).length (kz 1) 0 + sdZ (syK kz Q m) (Q.G n) (nc_syN Q n m) (some m) ≤ nc_syZ kz Q n m kZ := by unfold nc_syZ; omega
      refine ⟨hz.1.1.1, rfl, pa_i r4 ⟨F1, 23, z 6, pl, me, a, d, V, cap, [], n + 1, A, X1 n, Q.G n, Q.T n, H, W, kn, kr, nc_syN Q n m, some m, gq, by rw [hWo, c1]; omega, by rw [hWo, c2]; omega, fun S5 h5 => ?_⟩⟩
      rw [hWo, c1, c2]
      obtain ⟨F5, a5, d5, cap5, g1, g2, g3, g4⟩ := hz.gath hW hWn hWo h5
      have k5 : Keep (fun b => cO (F b).1) S S5 := hk1.trN g4 (fun b hb e => by show cO (F b).1; rw [← hf1 b hb, e]; exact ⟨by decide, by decide⟩)
      have f5 : ∀ b, b ∈ mL S → F5 b = F b := fun b hb => (g3 b (hk1.1 b hb).1).trans (hf1 b hb)
      have hB5 : Bt S5 F5 22 (z 1) d1 B1 (syK kz Q m 1) := hB.keep g4 (fun b e w => by rw [e] at w; exact absurd w (by decide)) g3
      have r45 : mR S5 1204 t = some (z 4) := g2.1.1.2.2.1 4 (by decide) (by decide) (by decide) (by decide)
      have r15 : mR S5 1201 t = some (z 1) := g2.1.1.2.2.1 1 (by decide) (by decide) (by decide) (by decide)
      have nf5 : ∀ {b v}, F5 b = (22, v) → (F5 b).1 ≠ 23 := fun {b v} e w => by rw [e] at w; have w : 22 = 23 := w; exact absurd w (by decide)
      have eA : coA (paF (Q.G n) (nc_syN Q n m) (some m)) p = nc_syA Q n m := by unfold nc_syA; rw [hpn]
      have eC2 : addNC (sumA (Q.G m) m).length (kz 1) 0 + sdC (syK kz Q m) (Q.G n) (nc_syN Q n m) (some m) + addNC (nc_syA Q n m).length (syK kz Q m 1) 0 ≤ nc_syC kz Q n m kC := by unfold nc_syC; omega
      have eZ2 : addNS (sumA (Q.G m) m).length (kz 1) 0 + sdZ (syK kz Q m) (Q.G n) (nc_syN Q n m) (some m) + addNS (nc_syA Q n m).length (syK kz Q m 1) 0 ≤ nc_syZ kz Q n m kZ := by unfold nc_syZ; omega
      refine ⟨g2.1.1.1, g2.1.1.1, rfl, pa_i r45 (pa_i r15 ⟨F5, 23, z 6, pl, me, a5, d5, _, cap5, _, d1, B1, ⟨g1, hB5.1, nf5 hB5.2.1, nf5 hB5.2.2.1⟩, ?_, ?_, fun S6 h6 => ?_⟩)⟩
      · rw [hB5.2.2.2, eA]; omega
      · rw [hB5.2.2.2, eA]; omega
      · rw [hB5.2.2.2, eA]
        rw [eA] at h6
        obtain ⟨d6, h6⟩ := h6
        have hsp := h6.spilt
        obtain ⟨F6, w1, w2, w3, w4⟩ := App.ownC hB5 g2.fo (by decide) h6
        have k4 : nc_sy4 kz Q n m 1 = capN (nc_syA Q n m).length (syK kz Q m 1) 0 := upF_s
        have b6 : Bt S6 F6 22 (z 1) d6 (nc_syP Q n m) (nc_sy4 kz Q n m 1) := by rw [k4]; exact w1
        have w9 := g2.wire (K' := nc_sy4 kz Q n m) ⟨d6, _, b6⟩ (fun k hk => upF_o hk) w4 w2 w3
        have r16 : mR S6 1201 t = some (z 1) := w9.1.1.2.2.1 1 (by decide) (by decide) (by decide) (by decide)
        have k6 : Keep (fun b => cO (F b).1) S S6 := k5.trN w4 (fun b hb e => by show cO (F b).1; rw [← f5 b hb, e]; exact ⟨by decide, by decide⟩)
        have f6 : ∀ b, b ∈ mL S → F6 b = F b := fun b hb => (w2 b (k5.1 b hb).1).trans (f5 b hb)
        refine ⟨w9.1.1.1, pa_i r16 ⟨w1.1.1, fun q0 => ?_, fun q0 => ⟨Or.inr (Or.inl ⟨rfl, n, m, X1, hA, Nat.lt_of_not_le (fun w => q0 (by rw [hsp, if_pos (show (nc_syA Q n m).length ≤ 32768 from (paT_co (nI n)).1 w)])), F6, ⟨z, w9⟩, f6, k6⟩), cst _ _ (by omega) (by omega)⟩⟩⟩
        have hl : (nc_syA Q n m).length ≤ 32768 := Classical.byContradiction (fun w => by rw [hsp, if_neg w] at q0; exact absurd q0 (by decide))
        have ht : paT (Q.G n) (nc_syN Q n m) (some m) ≤ 32768 := (paT_co (nI n)).2 hl
        exact ⟨0, by decide, z, n, m, F6, X1, d6, rfl, hA, ht, w9, b6, f6, k6, rfl, rfl, by unfold nc_y3C; omega, by unfold nc_y3Z; omega⟩
    · cases hm
      obtain ⟨z, n, m, F1, X1, d1, hk0, hA, ht, hz, hB, hf1, hk1, hlo, hst, hcs, hsl⟩ := h
      subst hk0 hlo hst
      refine ⟨300, ?_⟩
      show (isO S1 12 t ∧ (0 = 0 ∧ ((pa (mR S1 1201 t) fun a_1 => (∃ (F_2 : Nat → Nat × Nat) (z_3 : Nat → Nat) (X_4 : Nat → GX) (kz_5 : Nat → Nat) (Q_6 : Ab) (n_7 j_8 d_9 : Nat) (B_10 : List Nat) (nn_11 kC_12 kZ_13 : Nat), (dvP S1 F_2 t z_3 X_4 kz_5 Q_6 n_7 j_8 (z (30 + m)) a_1 d_9 B_10 nn_11 kC_12 kZ_13) ∧ cs + (addNC (nc_dU B_10) (kz_5 45) 0 + kC_12) ≤ nc_syC kz Q p.toNatClampNeg x.toNatClampNeg kC + 4 ∧ sl + (addNS (nc_dU B_10) (kz_5 45) 0 + kZ_13) ≤ nc_syZ kz Q p.toNatClampNeg x.toNatClampNeg kZ + 24 ∧ (∀ (x_15 : Int32) (S_14 : MM), (dvQ S1 S_14 F_2 t z_3 kz_5 Q_6 n_7 j_8 B_10 x_15) → (0 = 0 ∧ (∃ (F_16 : Nat → Nat × Nat) (z_17 : Nat → Nat) (ft_18 fo_19 : Nat) (mp_20 : Nat → Option Nat) (ms_21 : Nat → Nat), (isO S_14 12 t ∧ SfB S_14 F_16 t z_17 ft_18 fo_19 mp_20 ms_21) ∧ cs + (addNC (nc_dU B_10) (kz_5 45) 0 + kC_12) + 1 ≤ nc_syC kz Q p.toNatClampNeg x.toNatClampNeg kC + 4 ∧ sl + (addNS (nc_dU B_10) (kz_5 45) 0 + kZ_13) + 6 ≤ nc_syZ kz Q p.toNatClampNeg x.toNatClampNeg kZ + 24 ∧ ((∀ (S_22 : MM), (S_22 = S_14 ∧ ft_18 = 0) → (([] : List MV) = [] ∧ mret (some .int) (sp_wsy t p x F X kz Q kC kZ) [.inr (.inr (some t)), .inl p, .inl x] S (some (.inl x_15)) S_22 (cs + (addNC (nc_dU B_10) (kz_5 45) 0 + kC_12) + 1) (sl + (addNS (nc_dU B_10) (kz_5 45) 0 + kZ_13) + 6))) ∧ ((ft_18 = 5) → mthr (sp_wsy t p x F X kz Q kC kZ) [.inr (.inr (some t)), .inl p, .inl x] S 2 S_14 (cs + (addNC (nc_dU B_10) (kz_5 45) 0 + kC_12) + 1) (sl + (addNS (nc_dU B_10) (kz_5 45) 0 + kZ_13) + 6)) ∧ ((ft_18 = 6) → mthr (sp_wsy t p x F X kz Q kC kZ) [.inr (.inr (some t)), .inl p, .inl x] S 3 S_14 (cs + (addNC (nc_dU B_10) (kz_5 45) 0 + kC_12) + 1) (sl + (addNS (nc_dU B_10) (kz_5 45) 0 + kZ_13) + 6)) ∧ ((ft_18 = 7) → mthr (sp_wsy t p x F X kz Q kC kZ) [.inr (.inr (some t)), .inl p, .inl x] S 0 S_14 (cs + (addNC (nc_dU B_10) (kz_5 45) 0 + kC_12) + 1) (sl + (addNS (nc_dU B_10) (kz_5 45) 0 + kZ_13) + 6)) ∧ ((1 ≤ ft_18 ∧ ft_18 ≤ 4) → mthr (sp_wsy t p x F X kz Q kC kZ) [.inr (.inr (some t)), .inl p, .inl x] S 1 S_14 (cs + (addNC (nc_dU B_10) (kz_5 45) 0 + kC_12) + 1) (sl + (addNS (nc_dU B_10) (kz_5 45) 0 + kZ_13) + 6)))))))))))
      obtain ⟨hn, hpn, hm4, hxm⟩ := id hA
      have cn : p.toNatClampNeg = n := by rw [hpn]; exact nI_clamp (by omega)
      have cm : x.toNatClampNeg = m := by rw [hxm]; exact nI_clamp (by omega)
      rw [cn, cm]
      have hKb := hp.2 n m hn hpn hm4 hxm
      unfold nc_y3C at hcs
      unfold nc_y3Z at hsl
      have eC2 : nc_syC kz Q n m kC = addNC (sumA (Q.G m) m).length (kz 1) 0 + sdC (syK kz Q m) (Q.G n) (nc_syN Q n m) (some m) + (addNC (nc_syA Q n m).length (syK kz Q m 1) 0 + (addNC (nc_dU (nc_syP Q n m)) (nc_sy4 kz Q n m 45) 0 + kC)) := by unfold nc_syC; rw [nc_t ht]; rfl
      have eZ2 : nc_syZ kz Q n m kZ = addNS (sumA (Q.G m) m).length (kz 1) 0 + sdZ (syK kz Q m) (Q.G n) (nc_syN Q n m) (some m) + (addNS (nc_syA Q n m).length (syK kz Q m 1) 0 + (addNS (nc_dU (nc_syP Q n m)) (nc_sy4 kz Q n m 45) 0 + kZ)) := by unfold nc_syZ; rw [nc_t ht]; rfl
      have cst : ∀ a d : Nat, a ≤ nc_syC kz Q n m kC + 4 → d ≤ nc_syZ kz Q n m kZ + 24 → a ≤ (sp_wsy t p x F X kz Q kC kZ).2.1 [.inr (.inr (some t)), .inl p, .inl x] S ∧ d ≤ (sp_wsy t p x F X kz Q kC kZ).2.2.1 [.inr (.inr (some t)), .inl p, .inl x] S := fun a d h1 h2 => ⟨by show a ≤ nc_syC kz Q p.toNatClampNeg x.toNatClampNeg kC + 4; rw [cn, cm]; exact h1, by show d ≤ nc_syZ kz Q p.toNatClampNeg x.toNatClampNeg kZ + 24; rw [cn, cm]; exact h2⟩
      have r1 : mR S1 1201 t = some (z 1) := hz.1.1.2.2.1 1 (by decide) (by decide) (by decide) (by decide)
      refine ⟨hz.1.1.1, rfl, pa_i r1 ⟨F1, z, X1, nc_sy4 kz Q n m, nc_syQ Q n m, m, 22, d1, nc_syP Q n m, nc_sy4 kz Q n m 1, kC, kZ, ⟨hz, hm4, rfl, hB, Or.inr (Or.inl rfl), by rw [nc_syQ_G.1, nc_syQ_G.2]; exact hKb⟩, by rw [eC2]; omega, by rw [eZ2]; omega, fun v S4 h4 => ?_⟩⟩
      obtain ⟨c, F4, X4, Q4, rfl, hc8, hd, w1, w2, w3⟩ := h4
      have wq : wtQ S S4 F t X4 (nc_tK (nc_sy4 kz Q n m) (nc_syP Q n m)) (id Q4) := ⟨F4, ⟨z, w1⟩, fun b hb => (w2 b (hk1.1 b hb).1).trans (hf1 b hb), hk1.trN w3 (fun b hb w => by show cO (F b).1; rw [← hf1 b hb]; exact w.1)⟩
      refine ⟨rfl, F4, z, Q4.ft, Q4.fo, Q4.mp, Q4.ms, ⟨w1.1.1.1, w1.1.2.1⟩, by rw [eC2]; omega, by rw [eZ2]; omega, fun S6 h6 => ?_, fun e => ⟨Or.inr (Or.inr (Or.inl ⟨rfl, n, m, c, hA, ht, Q4, X4, hd, e, wq⟩)), cst _ _ (by rw [eC2]; omega) (by rw [eZ2]; omega)⟩, fun e => ⟨Or.inr (Or.inr (Or.inr (Or.inl ⟨rfl, n, m, c, hA, ht, Q4, X4, hd, e, wq⟩))), cst _ _ (by rw [eC2]; omega) (by rw [eZ2]; omega)⟩, fun e => ⟨Or.inr (Or.inr (Or.inr (Or.inr (Or.inl ⟨rfl, n, m, c, hA, ht, Q4, X4, hd, e, wq⟩)))), cst _ _ (by rw [eC2]; omega) (by rw [eZ2]; omega)⟩, fun e => ⟨Or.inr (Or.inr (Or.inr (Or.inr (Or.inr ⟨rfl, n, m, c, hA, ht, Q4, X4, hd, e, wq⟩)))), cst _ _ (by rw [eC2]; omega) (by rw [eZ2]; omega)⟩⟩
      obtain ⟨rfl, e⟩ := h6
      exact ⟨rfl, trivial, ⟨_, rfl, n, m, c, hA, rfl, hc8, ht, Q4, X4, hd, e, wq⟩, cst _ _ (by rw [eC2]; omega) (by rw [eZ2]; omega)⟩
theorem u_wsy (l : Launch) (hlt : l.stackTraces = false) : UsX l yX11_sync (Cond.code yX11_sync cX11_sync 6 (some .int)) (some .int) 11 271 12 T_wsy := by
  intro Rc Rs av S cs sl K Kx h
  unfold T_wsy at h
  split at h
  · rename_i t_o p x
    obtain ⟨t, rfl, h_1⟩ := pa_of h
    obtain ⟨F, X, kz, Q, kC, kZ, hp, hc, hs, hk, hx0, hx1, hx2, hx3, hx4, hx5⟩ := h_1
    refine ⟨(sp_wsy t p x F X kz Q kC kZ), c_wsy l hlt t p x F X kz Q kC kZ, fun _ _ h9 => ⟨_, _, h9.1, h9.2.1.choose_spec.1.1.1⟩, ⟨rfl, hp⟩, hc, hs, fun v9 S' h8 => by
      obtain ⟨v8, h7, h8⟩ := h8
      cases h7
      exact hk _ _ h8, fun _ _ q => by
      rcases q with ⟨rfl, q⟩ | ⟨rfl, q⟩ | ⟨rfl, q⟩ | ⟨rfl, q⟩ | ⟨rfl, q⟩ | ⟨rfl, q⟩
      · obtain ⟨q, rfl⟩ := q
        exact hx0 q
      · exact hx1 _ q
      · exact hx2 _ q
      · exact hx3 _ q
      · exact hx4 _ q
      · exact hx5 _ q⟩
  · exact h.elim
