/-! ===== WRITING: insert, delete, undo ===== -/
noncomputable def nc_if (P : Prop) (a b : Nat) : Nat := @ite Nat P (Classical.propDecidable P) a b
theorem nc_t {P : Prop} {a b : Nat} (h : P) : nc_if P a b = a := if_pos h
theorem nc_f {P : Prop} {a b : Nat} (h : ¬ P) : nc_if P a b = b := if_neg h
/-- whether n own events find room -/
def roP (G : Gr) (p n : Nat) : Prop := n = 0 ∨ (G.n + n ≤ 8192 ∧ (hasAg G p ∨ G.m < 16))
/-- an agent's slot, the next one where it has none -/
def owN (G : Gr) (p : Nat) : Nat := ((List.range G.m).find? (fun s => decide (G.ag s = p))).getD G.m
theorem owN_ok {G : Gr} {p : Nat} (h : hasAg G p ∨ G.m < 16) : OwSl G p (owN G p) := by
  unfold owN
  cases e : (List.range G.m).find? (fun s => decide (G.ag s = p)) with
  | some s =>
    have h1 := List.mem_of_find?_eq_some e
    have h2 := List.find?_some e
    exact Or.inl ⟨List.mem_range.1 h1, of_decide_eq_true h2⟩
  | none =>
    have q : ∀ t, t < G.m → G.ag t ≠ p := fun t ht w => by
      have := List.find?_eq_none.1 e t (List.mem_range.2 ht)
      exact this (decide_eq_true w)
    refine Or.inr ⟨rfl, ?_, q⟩
    rcases h with ⟨t, ht, w⟩ | h
    · exact absurd w (q t ht)
    · exact h
theorem syms_nat {B : List Nat} (hB : ∀ b ∈ B, b < 256) (hl : B.length ≤ 32768) {l : List Int32} (h : syms B = some l) : ∃ L : List Nat, l = L.map nI ∧ (∀ x ∈ L, x ≤ 1114111) ∧ L.length ≤ 32768 := by
  have q := symsF_nn hB (by omega) h
  have ln := symsF_len h
  refine ⟨l.map (fun c => c.toNatClampNeg), ?_, fun x hx => ?_, by rw [List.length_map]; omega⟩
  · rw [List.map_map]
    conv => lhs; rw [← List.map_id l]
    refine List.map_congr_left (fun c hc => ?_)
    obtain ⟨x, hx, rfl⟩ := q c hc
    show nI x = nI (nI x).toNatClampNeg
    rw [nI_clamp (by omega)]
  · obtain ⟨c, hc, rfl⟩ := List.mem_map.1 hx
    obtain ⟨x, hx9, rfl⟩ := q c hc
    rw [nI_clamp (by omega)]; exact hx9
/-- a peer has written -/
theorem WTz.wrote {S S' : MM} {F F' : Nat → Nat × Nat} {t : Nat} {z : Nat → Nat} {X : Nat → GX} {K : Nat → Nat} {Q : Ab} (h : WTz S F t z X K Q) {n : Nat} (hn : n < 4) {A A' : Nat → Nat} {H H' : List Nat} {W W' : Nat → Nat} {r a d d' c' : Nat} {ea ea' : Nat → Nat} {kn : Nat} {kr : Nat → Nat} {cu : Nat} {X' : GX} {G' : Gr} {T' : Tr} {E' : List (Nat × Nat)} (hP : Pe S F n (z (30 + n)) A (X n) (Q.G n) (Q.T n) H W r a d (K (30 + n)) (Q.E n) ea kn kr (Q.Kn n) cu) (hW : WrR S' F' (n + 1) (n + 11) (z (30 + n)) r n A' X' G' T' H' W') (h1 : mR S' 1102 (z (30 + n)) = some a) (hE : EdL S' F' (n + 11) a d' c' E' ea') (hf : ∀ b, b ∈ mL S → F' b = F b) (hk : Keep (fun c => (F c).1 = n + 1 ∨ jo3 (n + 11) (F c)) S S') (hX : ∀ l, l < (Q.G n).n → X'.ad l = (X n).ad l) (hn' : (Q.G n).n ≤ G'.n) : WTz S' F' t z (upF X n X') (upF K (30 + n) c') (Q.sPe n G' T' E') ∧ Keep (fun b => cO (F b).1) S S' := by
  obtain ⟨⟨w1, w2, w3, w4, w5, w6, w7, w8, w9, w10, w11, w12, w13⟩, h2, h3, h4, h5, h6, h7, h8, h9⟩ := hP
  have q : ∀ {b v}, F b = v → v.1 ≠ n + 1 → ¬ jo3 (n + 11) v → ¬ ((F b).1 = n + 1 ∨ jo3 (n + 11) (F b)) := fun {b v} e a b w => by
    rw [e] at w
    exact w.elim a b
  have jn : ∀ {u v : Nat}, (u = n + 11 → v ≠ 2 ∧ v ≠ 3 ∧ v ≠ 5) → ¬ jo3 (n + 11) (u, v) := fun {u v} hv w => by
    rcases w with w | w | w <;> (injection w with e1 e2; have := hv e1; omega)
  have kb := hk.2.1 _ w1.1 (q w2 (by show n + 11 ≠ n + 1; omega) (jn (fun _ => by omega)))
  have q3 : ∀ {b v}, F b = (n + 31, v) → ¬ ((F b).1 = n + 1 ∨ jo3 (n + 11) (F b)) := fun {b v} e => q e (by show n + 31 ≠ n + 1; omega) (jn (fun e => by omega))
  obtain ⟨k1, k2, k3, k4⟩ := h4
  have hP' : Pe S' F' n (z (30 + n)) A' X' G' T' H' W' r a d' c' E' ea' kn kr (Q.Kn n) cu := ⟨hW, h1, hE, ⟨(kb.2.1 _).trans k1, hk.isO k2, (hk.1 _ k2.1).2.2.trans k3, fun o ho => by
    obtain ⟨g1, g2, g3, g4⟩ := k4 o ho
    exact ⟨by rw [(hk.2.1 _ k2.1 (q3 h7)).2.2.2.2.2]; exact g1, hk.isO g2, (hk.1 _ g2.1).2.2.trans g3, fun j hj => by rw [(hk.2.1 _ g2.1 (q3 (h8 o ho))).2.2.2.1]; exact g4 j hj⟩⟩, (kb.2.1 _).trans h5, hk.isO h6, (hf _ k2.1).trans h7, fun o ho => (hf _ (k4 o ho).2.1.1).trans (h8 o ho), (hf _ h6.1).trans h9⟩
  have hkO : Keep (fun b => (F b).1 = n + 1 ∨ (F b).1 = n + 11) S S' := hk.mono (fun b _ w => w.imp id (fun w => by rcases w with w | w | w <;> rw [w]))
  refine ⟨h.peer hn ⟨A', H', W', r, a, d', ea', kn, kr, cu, by rw [upF_s]; exact hP'⟩ ⟨hn', hX⟩ (fun l hl => upF_o hl) hkO hf hW.2.2.2.2.2.2.2.2.2.1, hkO.mono (fun b _ w => ?_)⟩
  show cO (F b).1
  rcases w with w | w <;> rw [w] <;> exact ⟨by omega, by omega⟩
theorem Run.len {p s : Nat} : ∀ {ops : List (Option Nat × Nat)} {G : Gr} {T : Tr} {G' : Gr} {T' : Tr}, Run p s ops G T G' T' → OwSl G p s → G'.n = G.n + ops.length
  | [], G, T, G', T', h, _ => by rw [h.1]; rfl
  | q :: ops, G, T, G', T', h, ho => by
    obtain ⟨G1, T1, ⟨H, hH, h1⟩, h2⟩ := h
    obtain ⟨n1, n2, n3, n4, -⟩ := h1.nx ho.eg
    have := Run.len h2 (Or.inl ⟨n3, n4⟩)
    rw [this, n1, List.length_cons]; omega
theorem Run.le {p s : Nat} : ∀ {ops : List (Option Nat × Nat)} {G : Gr} {T : Tr} {G' : Gr} {T' : Tr}, Run p s ops G T G' T' → (ops ≠ [] → OwSl G p s) → G.n ≤ G'.n
  | [], G, T, G', T', h, _ => by rw [h.1]; exact Nat.le_refl _
  | q :: ops, G, T, G', T', h, ho => by rw [Run.len h (ho (by simp))]; exact Nat.le_add_right _ _
/-- what an insertion makes of an object -/
def insR (Q : Ab) (X : Nat → GX) (kz : Nat → Nat) (n i : Nat) (L : List Nat) (Q1 : Ab) (X1 : Nat → GX) (kz1 : Nat → Nat) : Prop := ∃ G' T' X', Run n (owN (Q.G n) n) (insO i L) (Q.G n) (Q.T n) G' T' ∧ X1 = upF X n X' ∧ kz1 = upF kz (30 + n) (if L.length = 0 then kz (30 + n) else alK (kz (30 + n)) (Q.E n).length) ∧ Q1 = Q.sPe n G' T' (if L.length = 0 then Q.E n else Q.E n ++ [((Q.G n).n, L.length)])
def AbE (kz : Nat → Nat) : Prop := ∀ n, n < 4 → kz (30 + n) ≤ 50000
noncomputable def nc_inC (kz : Nat → Nat) (Q : Ab) (n : Nat) : Nat := match syms Q.tp with
  | none => 0
  | some l => nc_if (roP (Q.G n) n l.length) (runC (Q.G n) (owN (Q.G n) n) l.length + ekC (kz (30 + n)) (Q.E n).length l.length) 0
noncomputable def nc_inZ (kz : Nat → Nat) (Q : Ab) (n : Nat) : Nat := match syms Q.tp with
  | none => 0
  | some l => nc_if (roP (Q.G n) n l.length) (runZ (Q.G n) (owN (Q.G n) n) l.length + ekZ (kz (30 + n)) (Q.E n).length l.length) 0
def I_in (t : Nat) (p x : Int32) (F : Nat → Nat × Nat) (X : Nat → GX) (kz : Nat → Nat) (Q : Ab) (S : MM) (k : Nat) : KT := fun lo st S1 cs sl => ∃ c n z, k = 1 ∧ WTz S F t z X kz Q ∧ n < 4 ∧ p = nI n ∧ ((c = 1 ∧ ∃ i, i ≤ visN (Q.G n) (Q.T n) ∧ x = nI i) ∨ (c = 0 ∧ np (visN (Q.G n) (Q.T n) + 1) x)) ∧ lo = [(0, .inr (.inr (some t))), (2, .inl x), (3, .inr (.inr (some (z (30 + n)))))] ∧ st = [.inl c] ∧ S = S1 ∧ cs = 1 ∧ sl = 6
def I_in2 (t : Nat) (p x : Int32) (F : Nat → Nat × Nat) (X : Nat → GX) (kz : Nat → Nat) (Q : Ab) (S : MM) (k : Nat) : KT := fun lo st S1 cs sl => ∃ n i z v b F1 X1 kz1 Q1, k = 0 ∧ n < 4 ∧ p = nI n ∧ i ≤ visN (Q.G n) (Q.T n) ∧ x = nI i ∧ WTz S1 F1 t z X1 kz1 Q1 ∧ (∀ b, b ∈ mL S → F1 b = F b) ∧ Keep (fun b => cO (F b).1) S S1 ∧ ((b = 1 ∧ ∃ L : List Nat, syms Q.tp = some (L.map nI) ∧ L.length ≤ 32768 ∧ roP (Q.G n) n L.length ∧ v = nI L.length ∧ insR Q X kz n i L Q1 X1 kz1) ∨ (b = 0 ∧ X1 = X ∧ kz1 = kz ∧ Q1 = Q ∧ ((syms Q.tp = none ∧ v < 0) ∨ ∃ L : List Nat, syms Q.tp = some (L.map nI) ∧ L.length ≤ 32768 ∧ ¬ roP (Q.G n) n L.length ∧ v = nI L.length))) ∧ lo = [(0, .inr (.inr (some t))), (4, .inl v), (5, .inl b)] ∧ st = [] ∧ cs = nc_inC kz Q n + 2 ∧ sl = nc_inZ kz Q n + 12
def T_win : TR := fun Rc Rs av S cs sl K Kx => match av with
  | [.inr (.inr t_o), .inl p, .inl x] => pa t_o fun t => (∃ (F : Nat → Nat × Nat) (X : Nat → GX) (kz : Nat → Nat) (Q : Ab), (WT S F t X kz Q ∧ AbE kz) ∧ cs + (nc_inC kz Q p.toNatClampNeg + 3) ≤ Rc ∧ sl + (nc_inZ kz Q p.toNatClampNeg + 18) ≤ Rs ∧ ((∀ (v : Int32) (S' : MM), (∃ (n i : Nat) (L : List Nat) (Q1 : Ab) (X1 : Nat → GX) (kz1 : Nat → Nat), n < 4 ∧ p = nI n ∧ i ≤ visN (Q.G n) (Q.T n) ∧ x = nI i ∧ syms Q.tp = some (L.map nI) ∧ roP (Q.G n) n L.length ∧ v = nI L.length ∧ insR Q X kz n i L Q1 X1 kz1 ∧ wtQ S S' F t X1 kz1 (Q1.sTp [])) → K (some (.inl v)) S' (cs + (nc_inC kz Q p.toNatClampNeg + 3)) (sl + (nc_inZ kz Q p.toNatClampNeg + 18))) ∧ ((np 4 p ∨ ∃ n, n < 4 ∧ p = nI n ∧ np (visN (Q.G n) (Q.T n) + 1) x) → Kx 1 S (cs + (nc_inC kz Q p.toNatClampNeg + 3)) (sl + (nc_inZ kz Q p.toNatClampNeg + 18))) ∧ (∀ (S' : MM), ((∃ n i, n < 4 ∧ p = nI n ∧ i ≤ visN (Q.G n) (Q.T n) ∧ x = nI i) ∧ syms Q.tp = none ∧ wtQ S S' F t X kz (Q.sTp [])) → Kx 3 S' (cs + (nc_inC kz Q p.toNatClampNeg + 3)) (sl + (nc_inZ kz Q p.toNatClampNeg + 18))) ∧ (∀ (S' : MM), ((∃ (n i : Nat) (L : List Nat), n < 4 ∧ p = nI n ∧ i ≤ visN (Q.G n) (Q.T n) ∧ x = nI i ∧ syms Q.tp = some (L.map nI) ∧ ¬ roP (Q.G n) n L.length) ∧ wtQ S S' F t X kz (Q.sTp [])) → Kx 0 S' (cs + (nc_inC kz Q p.toNatClampNeg + 3)) (sl + (nc_inZ kz Q p.toNatClampNeg + 18)))))
  | _ => False
noncomputable def sp_win (t : Nat) (p : Int32) (x : Int32) (F : Nat → Nat × Nat) (X : Nat → GX) (kz : Nat → Nat) (Q : Ab) : Sp := (fun av S => av = [.inr (.inr (some t)), .inl p, .inl x] ∧ (WT S F t X kz Q ∧ AbE kz), fun _ S => nc_inC kz Q p.toNatClampNeg + 3, fun _ S => nc_inZ kz Q p.toNatClampNeg + 18, fun _ S rv S' => ∃ v, rv = (some (.inl v)) ∧ (∃ (n i : Nat) (L : List Nat) (Q1 : Ab) (X1 : Nat → GX) (kz1 : Nat → Nat), n < 4 ∧ p = nI n ∧ i ≤ visN (Q.G n) (Q.T n) ∧ x = nI i ∧ syms Q.tp = some (L.map nI) ∧ roP (Q.G n) n L.length ∧ v = nI L.length ∧ insR Q X kz n i L Q1 X1 kz1 ∧ wtQ S S' F t X1 kz1 (Q1.sTp [])), fun _ S E S' => (E = 1 ∧ (np 4 p ∨ ∃ n, n < 4 ∧ p = nI n ∧ np (visN (Q.G n) (Q.T n) + 1) x) ∧ S' = S) ∨ (E = 3 ∧ ((∃ n i, n < 4 ∧ p = nI n ∧ i ≤ visN (Q.G n) (Q.T n) ∧ x = nI i) ∧ syms Q.tp = none ∧ wtQ S S' F t X kz (Q.sTp []))) ∨ (E = 0 ∧ ((∃ (n i : Nat) (L : List Nat), n < 4 ∧ p = nI n ∧ i ≤ visN (Q.G n) (Q.T n) ∧ x = nI i ∧ syms Q.tp = some (L.map nI) ∧ ¬ roP (Q.G n) n L.length) ∧ wtQ S S' F t X kz (Q.sTp []))))
def tX11_insert : CD := [(0, .aload_n 0), (1, .iload_n 1), (2, .invokevirtual 108), (5, .astore_n 3), (6, .iload_n 2), (7, .ifCond .lt 18), (10, .iload_n 2), (11, .aload_n 3), (12, .getfield 112), (15, .getfield 116), (18, .if_icmp .gt 7), (21, .iconst 1), (22, .goto 4), (25, .iconst 0), (26, .invokestatic 104), (29, .aload_n 0), (30, .getfield 10), (33, .invokevirtual 121), (36, .istore 4), (38, .iload 4), (40, .ifCond .lt 16), (43, .aload_n 3), (44, .iload 4), (46, .invokevirtual 125), (49, .ifCond .eq 7), (52, .iconst 1), (53, .goto 4), (56, .iconst 0), (57, .istore 5), (59, .iload 5), (61, .ifCond .eq 14), (64, .aload_n 3), (65, .aload_n 0), (66, .getfield 10), (69, .iload_n 2), (70, .iload 4), (72, .invokevirtual 129), (75, .aload_n 0), (76, .getfield 10), (79, .invokevirtual 133), (82, .iload 4), (84, .ifCond .ge 11), (87, .new 136), (90, .dup), (91, .invokespecial 138), (94, .athrow), (95, .iload 5), (97, .ifCond .ne 11), (100, .new 98), (103, .dup), (104, .invokespecial 100), (107, .athrow), (108, .iload 4), (110, .ireturn)]
set_option maxRecDepth 100000 in
theorem kX11_insert : chk cX11_insert tX11_insert = true := by decide +kernel
theorem vX11_insert_108 : ∀ w ∈ ([.methodLink RX11 108 yX11_peerOf, .instanceMethod yX11_peerOf, .selects yX11_peerOf.cls yX11_peerOf yX11_peerOf, .initialized yX11_peerOf.cls, .code yX11_peerOf cX11_peerOf 2 (some (.object "WeaveText$Peer"))] : List Cond), w ∈ lw_good := List.forall_mem_cons.mpr ⟨mgd 827 (by decide +kernel) (by decide +kernel), List.forall_mem_cons.mpr ⟨mgd 829 (by decide +kernel) (by decide +kernel), List.forall_mem_cons.mpr ⟨mgd 1 (by decide +kernel) (by decide +kernel), List.forall_mem_cons.mpr ⟨mgd 121 (by decide +kernel) (by decide +kernel), List.forall_mem_cons.mpr ⟨mgd 830 (by decide +kernel) (by decide +kernel), fun _ h => absurd h List.not_mem_nil⟩⟩⟩⟩⟩
theorem vX11_insert_104 : ∀ w ∈ ([.methodLink RX11 104 yX11_require, .static yX11_require, .initialized yX11_require.cls, .code yX11_require cX11_require 1 none] : List Cond), w ∈ lw_good := List.forall_mem_cons.mpr ⟨mgd 801 (by decide +kernel) (by decide +kernel), List.forall_mem_cons.mpr ⟨mgd 802 (by decide +kernel) (by decide +kernel), List.forall_mem_cons.mpr ⟨mgd 121 (by decide +kernel) (by decide +kernel), List.forall_mem_cons.mpr ⟨mgd 803 (by decide +kernel) (by decide +kernel), fun _ h => absurd h List.not_mem_nil⟩⟩⟩⟩
theorem vX11_insert_121 : ∀ w ∈ ([.methodLink RX11 121 yX1_countSymbols, .instanceMethod yX1_countSymbols, .selects yX1_countSymbols.cls yX1_countSymbols yX1_countSymbols, .initialized yX1_countSymbols.cls, .code yX1_countSymbols cX1_countSymbols 4 (some .int)] : List Cond), w ∈ lw_good := List.forall_mem_cons.mpr ⟨mgd 831 (by decide +kernel) (by decide +kernel), List.forall_mem_cons.mpr ⟨mgd 832 (by decide +kernel) (by decide +kernel), List.forall_mem_cons.mpr ⟨mgd 833 (by decide +kernel) (by decide +kernel), List.forall_mem_cons.mpr ⟨mgd 122 (by decide +kernel) (by decide +kernel), List.forall_mem_cons.mpr ⟨mgd 834 (by decide +kernel) (by decide +kernel), fun _ h => absurd h List.not_mem_nil⟩⟩⟩⟩⟩
theorem vX11_insert_125 : ∀ w ∈ ([.methodLink RX11 125 yX10_hasRoom, .instanceMethod yX10_hasRoom, .selects yX10_hasRoom.cls yX10_hasRoom yX10_hasRoom, .initialized yX10_hasRoom.cls, .code yX10_hasRoom cX10_hasRoom 2 (some .boolean)] : List Cond), w ∈ lw_good := List.forall_mem_cons.mpr ⟨mgd 853 (by decide +kernel) (by decide +kernel), List.forall_mem_cons.mpr ⟨mgd 854 (by decide +kernel) (by decide +kernel), List.forall_mem_cons.mpr ⟨mgd 855 (by decide +kernel) (by decide +kernel), List.forall_mem_cons.mpr ⟨mgd 124 (by decide +kernel) (by decide +kernel), List.forall_mem_cons.mpr ⟨mgd 856 (by decide +kernel) (by decide +kernel), fun _ h => absurd h List.not_mem_nil⟩⟩⟩⟩⟩
theorem vX11_insert_129 : ∀ w ∈ ([.methodLink RX11 129 yX10_insertText, .instanceMethod yX10_insertText, .selects yX10_insertText.cls yX10_insertText yX10_insertText, .initialized yX10_insertText.cls, .code yX10_insertText cX10_insertText 7 none] : List Cond), w ∈ lw_good := List.forall_mem_cons.mpr ⟨mgd 861 (by decide +kernel) (by decide +kernel), List.forall_mem_cons.mpr ⟨mgd 862 (by decide +kernel) (by decide +kernel), List.forall_mem_cons.mpr ⟨mgd 863 (by decide +kernel) (by decide +kernel), List.forall_mem_cons.mpr ⟨mgd 124 (by decide +kernel) (by decide +kernel), List.forall_mem_cons.mpr ⟨mgd 864 (by decide +kernel) (by decide +kernel), fun _ h => absurd h List.not_mem_nil⟩⟩⟩⟩⟩
theorem vX11_insert_133 : ∀ w ∈ ([.methodLink RX11 133 yX1_clear, .instanceMethod yX1_clear, .selects yX1_clear.cls yX1_clear yX1_clear, .initialized yX1_clear.cls, .code yX1_clear cX1_clear 1 none] : List Cond), w ∈ lw_good := List.forall_mem_cons.mpr ⟨mgd 1052 (by decide +kernel) (by decide +kernel), List.forall_mem_cons.mpr ⟨mgd 1053 (by decide +kernel) (by decide +kernel), List.forall_mem_cons.mpr ⟨mgd 1054 (by decide +kernel) (by decide +kernel), List.forall_mem_cons.mpr ⟨mgd 122 (by decide +kernel) (by decide +kernel), List.forall_mem_cons.mpr ⟨mgd 1055 (by decide +kernel) (by decide +kernel), fun _ h => absurd h List.not_mem_nil⟩⟩⟩⟩⟩
set_option maxRecDepth 100000 in
set_option maxHeartbeats 2000000 in
theorem c_win (l : Launch) (hlt : l.stackTraces = false) : ∀ (t : Nat) (p : Int32) (x : Int32) (F : Nat → Nat × Nat) (X : Nat → GX) (kz : Nat → Nat) (Q : Ab), CtX l yX11_insert (Cond.code yX11_insert cX11_insert 6 (some .int)) (some .int) 10 245 (sp_win t p x F X kz Q) := by
  intro t p x F X kz Q
  refine CtX.of hlt (fX11, nX11, aX11, iX11, lX11, [(108, 0, 2, 3, T_wpo), (104, 2, 1, 0, T_wrq), (121, 0, 1, 1, T_cnts), (125, 0, 2, 1, T_phr), (129, 0, 4, 0, T_pit), (133, 0, 1, 0, T_bclr)], qX11, gX11, thX11) false tX11_insert (fun _ S => look [(26, ([0,2,3], I_in t p x F X kz Q S)), (75, ([0,4,5], I_in2 t p x F X kz Q S))]) (by decide) (by decide) kX11_insert ⟨_, _, rfl⟩ fX11_ok nX11_ok aX11_ok iX11_ok lX11_ok (fun p e R s m args below meth c Q D cy z r A C hR1 hR2 => List.forall_mem_cons.mpr ⟨cOK_use (fun _ _ _ _ _ _ _ _ h => let ⟨sp, h1, h2, h3⟩ := u_wpo l hlt _ _ _ _ _ _ _ _ h; ⟨sp, cOKx_V C h1 vX11_insert_108 ⟨by decide, by decide, by decide +kernel⟩ ⟨by rw [hR1]; decide, by rw [hR2]; decide⟩ (k := 12) (T := TX11) (N := 15) rfl (by decide) h2, h3⟩), List.forall_mem_cons.mpr ⟨cOK_use (fun _ _ _ _ _ _ _ _ h => let ⟨sp, h1, _, h3⟩ := u_wrq l hlt _ _ _ _ _ _ _ _ h; ⟨sp, cOKx_S C h1 vX11_insert_104 ⟨by decide, by decide, by decide +kernel⟩ ⟨by rw [hR1]; decide, by rw [hR2]; decide⟩, h3⟩), List.forall_mem_cons.mpr ⟨cOK_use (fun _ _ _ _ _ _ _ _ h => let ⟨sp, h1, h2, h3⟩ := u_cnts l _ _ _ _ _ _ _ _ h; ⟨sp, cOK_V C h1 vX11_insert_121 ⟨by decide, by decide, by decide +kernel⟩ ⟨by rw [hR1]; decide, by rw [hR2]; decide⟩ (k := 2) (T := TX1) (N := 3) rfl (by decide) h2, h3⟩), List.forall_mem_cons.mpr ⟨cOK_use (fun _ _ _ _ _ _ _ _ h => let ⟨sp, h1, h2, h3⟩ := u_phr l _ _ _ _ _ _ _ _ h; ⟨sp, cOK_V C h1 vX11_insert_125 ⟨by decide, by decide, by decide +kernel⟩ ⟨by rw [hR1]; decide, by rw [hR2]; decide⟩ (k := 11) (T := TX10) (N := 6) rfl (by decide) h2, h3⟩), List.forall_mem_cons.mpr ⟨cOK_use (fun _ _ _ _ _ _ _ _ h => let ⟨sp, h1, h2, h3⟩ := u_pit l _ _ _ _ _ _ _ _ h; ⟨sp, cOK_V C h1 vX11_insert_129 ⟨by decide, by decide, by decide +kernel⟩ ⟨by rw [hR1]; decide, by rw [hR2]; decide⟩ (k := 11) (T := TX10) (N := 6) rfl (by decide) h2, h3⟩), List.forall_mem_cons.mpr ⟨cOK_use (fun _ _ _ _ _ _ _ _ h => let ⟨sp, h1, h2, h3⟩ := u_bclr l _ _ _ _ _ _ _ _ h; ⟨sp, cOK_V C h1 vX11_insert_133 ⟨by decide, by decide, by decide +kernel⟩ ⟨by rw [hR1]; decide, by rw [hR2]; decide⟩ (k := 2) (T := TX1) (N := 3) rfl (by decide) h2, h3⟩), fun _ h => absurd h List.not_mem_nil⟩⟩⟩⟩⟩⟩) qX11_ok gX11_ok (fun q hq => ⟨thX11_ok q hq, by decide, by decide⟩) ?_ ?_
  · rintro _ S ⟨rfl, hp⟩
    refine ⟨Nat.le_of_ble_eq_true rfl, 300, ?_⟩
    show (0 = 0 ∧ (∃ (F_1 : Nat → Nat × Nat) (z_2 : Nat → Nat), (SfA S F_1 t z_2) ∧ 0 + 1 ≤ nc_inC kz Q p.toNatClampNeg + 3 ∧ 0 + 6 ≤ nc_inZ kz Q p.toNatClampNeg + 18 ∧ ((∀ (x_4 : Option Nat) (S_3 : MM), (S_3 = S ∧ ∃ n, n < 4 ∧ p = nI n ∧ x_4 = some (z_2 (30 + n))) → ((x < 0 → (∃ k1, I_in t p x F X kz Q S k1 [(0, .inr (.inr (some t))), (2, .inl x), (3, .inr (.inr x_4))] [.inl (0 : Int32)] S_3 (0 + 1) (0 + 6))) ∧ (¬ x < 0 → (pa x_4 fun a_5 => isO S_3 11 a_5 ∧ (pa (mR S_3 1101 a_5) fun a_6 => isO S_3 6 a_6 ∧ (((mI S_3 605 a_6) < x → (∃ k1, I_in t p x F X kz Q S k1 [(0, .inr (.inr (some t))), (2, .inl x), (3, .inr (.inr x_4))] [.inl (0 : Int32)] S_3 (0 + 1) (0 + 6))) ∧ (¬ (mI S_3 605 a_6) < x → (∃ k1, I_in t p x F X kz Q S k1 [(0, .inr (.inr (some t))), (2, .inl x), (3, .inr (.inr x_4))] [.inl (1 : Int32)] S_3 (0 + 1) (0 + 6))))))))) ∧ ((np 4 p) → mthr (sp_win t p x F X kz Q) [.inr (.inr (some t)), .inl p, .inl x] S 1 S (0 + 1) (0 + 6)))))
    obtain ⟨⟨z, hz⟩, hE⟩ := hp
    refine ⟨rfl, F, z, hz.1.1, by omega, by omega, fun v S3 h => ?_, fun h => ⟨Or.inl ⟨rfl, Or.inl h, rfl⟩, by show _ ≤ nc_inC kz Q p.toNatClampNeg + 3; omega, by show _ ≤ nc_inZ kz Q p.toNatClampNeg + 18; omega⟩⟩
    obtain ⟨rfl, n, hn, rfl, rfl⟩ := h
    obtain ⟨A, H, W, r, a', d, ea, kn, kr, cu, hP⟩ := hz.2.1 n hn
    have g := hP.gi
    have r1 : mR S3 1101 (z (30 + n)) = some (A 0) := hP.1.2.2.2.1
    have m5 : mI S3 605 (A 0) = nI (visN (Q.G n) (Q.T n)) := g 6
    have vl := g.vl
    have bad : np (visN (Q.G n) (Q.T n) + 1) x → ∃ k1, I_in t (nI n) x F X kz Q S3 k1 [(0, .inr (.inr (some t))), (2, .inl x), (3, .inr (.inr (some (z (30 + n)))))] [.inl 0] S3 (0 + 1) (0 + 6) := fun q => ⟨1, 0, n, z, rfl, hz, hn, rfl, Or.inr ⟨rfl, q⟩, rfl, rfl, rfl, rfl, rfl⟩
    refine ⟨fun q => bad (np_lo (by omega) q), fun q3 => pa_i rfl ⟨hP.1.1, pa_i r1 ⟨(g 0).1, ?_⟩⟩⟩
    rw [m5]
    obtain ⟨j, hj, rfl⟩ := nI_of q3
    refine ⟨fun q => bad (fun j2 hj2 e => ?_), fun q => ⟨1, 1, n, z, rfl, hz, hn, rfl, Or.inl ⟨rfl, j, ?_, rfl⟩, rfl, rfl, rfl, rfl, rfl⟩⟩
    · have := (nI_ltI (by omega) hj).1 q
      have := (nI_eq hj (by omega)).1 e
      omega
    · exact Nat.le_of_not_lt (fun w => q ((nI_ltI (by omega) hj).2 w))
  · intro av S hpre pc I hI k lo st S1 cs sl h
    obtain ⟨rfl, hp⟩ := hpre
    have hm := look_in hI
    simp only [List.mem_cons, List.not_mem_nil, or_false] at hm
    rcases hm with hm | hm
    · cases hm
      obtain ⟨c, n, z, rfl, hz, hn, hpn, hc, rfl, rfl, rfl, rfl, rfl⟩ := h
      refine ⟨300, ?_⟩
      show (2 = 2 ∧ ((c = 0 ∨ c = 1) ∧ 1 + 1 ≤ nc_inC kz Q p.toNatClampNeg + 3 ∧ 6 + 6 ≤ nc_inZ kz Q p.toNatClampNeg + 18 ∧ ((∀ (S_1 : MM), (S_1 = S ∧ c = 1) → (isO S_1 12 t ∧ (0 = 0 ∧ ((pa (mR S_1 1200 t) fun a_2 => (∃ (d_3 : Nat) (B_4 : List Nat), (By S_1 a_2 d_3 B_4) ∧ 1 + 1 ≤ nc_inC kz Q p.toNatClampNeg + 3 ∧ 6 + 6 ≤ nc_inZ kz Q p.toNatClampNeg + 18 ∧ ((((cntS (syms B_4) 0) < 0 → (((0 : Int32) = 0 → (∃ k1, k1 < 1 ∧ I_in2 t p x F X kz Q S k1 [(0, .inr (.inr (some t))), (4, .inl (cntS (syms B_4) 0)), (5, .inl (0 : Int32))] [] S_1 (1 + 1) (6 + 6))) ∧ (¬ (0 : Int32) = 0 → (isO S_1 12 t ∧ (0 = 0 ∧ ((pa (mR S_1 1200 t) fun a_6 => (∃ (ix_7 : Nat), x = nI ix_7 ∧ (∃ (n_8 : Nat), cntS (syms B_4) 0 = nI n_8 ∧ (∃ (F_9 : Nat → Nat × Nat) (i_10 jo_11 r_12 p_13 s_14 : Nat) (A_15 : Nat → Nat) (X_16 : GX) (G_17 : Gr) (T_18 : Tr) (H_19 : List Nat) (W_20 : Nat → Nat) (a_21 d_22 c_23 : Nat) (E_24 : List (Nat × Nat)) (ea_25 : Nat → Nat) (td_26 : Nat) (B_27 L_28 : List Nat), (WrR S_1 F_9 i_10 jo_11 (z (30 + n)) r_12 p_13 A_15 X_16 G_17 T_18 H_19 W_20 ∧ mR S_1 1102 (z (30 + n)) = some a_21 ∧ EdL S_1 F_9 jo_11 a_21 d_22 c_23 E_24 ea_25 ∧ c_23 ≤ 50000 ∧ p_13 < 256 ∧ (n_8 ≠ 0 → OwSl G_17 p_13 s_14) ∧ G_17.n + n_8 ≤ 8192 ∧ ix_7 ≤ visN G_17 T_18 ∧ By S_1 a_6 td_26 B_27 ∧ (F_9 a_6).1 ≠ i_10 ∧ (F_9 td_26).1 ≠ i_10 ∧ syms B_27 = some (L_28.map nI) ∧ n_8 = L_28.length ∧ (∀ x ∈ L_28, x ≤ 1114111)) ∧ 1 + 1 + (runC G_17 s_14 n_8 + ekC c_23 E_24.length n_8) ≤ nc_inC kz Q p.toNatClampNeg + 3 ∧ 6 + 6 + (runZ G_17 s_14 n_8 + ekZ c_23 E_24.length n_8) ≤ nc_inZ kz Q p.toNatClampNeg + 18 ∧ (∀ (S_29 : MM), (itQ S_1 S_29 F_9 i_10 jo_11 (z (30 + n)) r_12 p_13 s_14 A_15 X_16 G_17 T_18 a_21 d_22 c_23 E_24 ea_25 (insO ix_7 L_28)) → (∃ k1, k1 < 1 ∧ I_in2 t p x F X kz Q S k1 [(0, .inr (.inr (some t))), (4, .inl (cntS (syms B_4) 0)), (5, .inl (0 : Int32))] [] S_29 (1 + 1 + (runC G_17 s_14 n_8 + ekC c_23 E_24.length n_8)) (6 + 6 + (runZ G_17 s_14 n_8 + ekZ c_23 E_24.length n_8)))))))))))))) ∧ (¬ (cntS (syms B_4) 0) < 0 → (0 = 0 ∧ (∃ (n_30 : Nat), cntS (syms B_4) 0 = nI n_30 ∧ (∃ (p_31 : Nat) (F_32 : Nat → Nat × Nat) (i_33 : Nat) (A_34 : Nat → Nat) (X_35 : GX) (G_36 : Gr) (T_37 : Tr) (H_38 : List Nat) (W_39 : Nat → Nat), (isO S_1 11 (z (30 + n)) ∧ mI S_1 1100 (z (30 + n)) = nI p_31 ∧ mR S_1 1101 (z (30 + n)) = some (A_34 0) ∧ GI S_1 F_32 i_33 A_34 X_35 G_36 T_37 H_38 W_39 ∧ p_31 < 256 ∧ n_30 ≤ 1000000) ∧ 1 + 1 ≤ nc_inC kz Q p.toNatClampNeg + 3 ∧ 6 + 6 ≤ nc_inZ kz Q p.toNatClampNeg + 18 ∧ ((((tf (n_30 = 0 ∨ (G_36.n + n_30 ≤ 8192 ∧ (hasAg G_36 p_31 ∨ G_36.m < 16)))) = 0 → (((0 : Int32) = 0 → (∃ k1, k1 < 1 ∧ I_in2 t p x F X kz Q S k1 [(0, .inr (.inr (some t))), (4, .inl (cntS (syms B_4) 0)), (5, .inl (0 : Int32))] [] S_1 (1 + 1) (6 + 6))) ∧ (¬ (0 : Int32) = 0 → (isO S_1 12 t ∧ (0 = 0 ∧ ((pa (mR S_1 1200 t) fun a_41 => (∃ (ix_42 : Nat), x = nI ix_42 ∧ (∃ (n_43 : Nat), cntS (syms B_4) 0 = nI n_43 ∧ (∃ (F_44 : Nat → Nat × Nat) (i_45 jo_46 r_47 p_48 s_49 : Nat) (A_50 : Nat → Nat) (X_51 : GX) (G_52 : Gr) (T_53 : Tr) (H_54 : List Nat) (W_55 : Nat → Nat) (a_56 d_57 c_58 : Nat) (E_59 : List (Nat × Nat)) (ea_60 : Nat → Nat) (td_61 : Nat) (B_62 L_63 : List Nat), (WrR S_1 F_44 i_45 jo_46 (z (30 + n)) r_47 p_48 A_50 X_51 G_52 T_53 H_54 W_55 ∧ mR S_1 1102 (z (30 + n)) = some a_56 ∧ EdL S_1 F_44 jo_46 a_56 d_57 c_58 E_59 ea_60 ∧ c_58 ≤ 50000 ∧ p_48 < 256 ∧ (n_43 ≠ 0 → OwSl G_52 p_48 s_49) ∧ G_52.n + n_43 ≤ 8192 ∧ ix_42 ≤ visN G_52 T_53 ∧ By S_1 a_41 td_61 B_62 ∧ (F_44 a_41).1 ≠ i_45 ∧ (F_44 td_61).1 ≠ i_45 ∧ syms B_62 = some (L_63.map nI) ∧ n_43 = L_63.length ∧ (∀ x ∈ L_63, x ≤ 1114111)) ∧ 1 + 1 + (runC G_52 s_49 n_43 + ekC c_58 E_59.length n_43) ≤ nc_inC kz Q p.toNatClampNeg + 3 ∧ 6 + 6 + (runZ G_52 s_49 n_43 + ekZ c_58 E_59.length n_43) ≤ nc_inZ kz Q p.toNatClampNeg + 18 ∧ (∀ (S_64 : MM), (itQ S_1 S_64 F_44 i_45 jo_46 (z (30 + n)) r_47 p_48 s_49 A_50 X_51 G_52 T_53 a_56 d_57 c_58 E_59 ea_60 (insO ix_42 L_63)) → (∃ k1, k1 < 1 ∧ I_in2 t p x F X kz Q S k1 [(0, .inr (.inr (some t))), (4, .inl (cntS (syms B_4) 0)), (5, .inl (0 : Int32))] [] S_64 (1 + 1 + (runC G_52 s_49 n_43 + ekC c_58 E_59.length n_43)) (6 + 6 + (runZ G_52 s_49 n_43 + ekZ c_58 E_59.length n_43)))))))))))))) ∧ (¬ (tf (n_30 = 0 ∨ (G_36.n + n_30 ≤ 8192 ∧ (hasAg G_36 p_31 ∨ G_36.m < 16)))) = 0 → (((1 : Int32) = 0 → (∃ k1, k1 < 1 ∧ I_in2 t p x F X kz Q S k1 [(0, .inr (.inr (some t))), (4, .inl (cntS (syms B_4) 0)), (5, .inl (1 : Int32))] [] S_1 (1 + 1) (6 + 6))) ∧ (¬ (1 : Int32) = 0 → (isO S_1 12 t ∧ (0 = 0 ∧ ((pa (mR S_1 1200 t) fun a_65 => (∃ (ix_66 : Nat), x = nI ix_66 ∧ (∃ (n_67 : Nat), cntS (syms B_4) 0 = nI n_67 ∧ (∃ (F_68 : Nat → Nat × Nat) (i_69 jo_70 r_71 p_72 s_73 : Nat) (A_74 : Nat → Nat) (X_75 : GX) (G_76 : Gr) (T_77 : Tr) (H_78 : List Nat) (W_79 : Nat → Nat) (a_80 d_81 c_82 : Nat) (E_83 : List (Nat × Nat)) (ea_84 : Nat → Nat) (td_85 : Nat) (B_86 L_87 : List Nat), (WrR S_1 F_68 i_69 jo_70 (z (30 + n)) r_71 p_72 A_74 X_75 G_76 T_77 H_78 W_79 ∧ mR S_1 1102 (z (30 + n)) = some a_80 ∧ EdL S_1 F_68 jo_70 a_80 d_81 c_82 E_83 ea_84 ∧ c_82 ≤ 50000 ∧ p_72 < 256 ∧ (n_67 ≠ 0 → OwSl G_76 p_72 s_73) ∧ G_76.n + n_67 ≤ 8192 ∧ ix_66 ≤ visN G_76 T_77 ∧ By S_1 a_65 td_85 B_86 ∧ (F_68 a_65).1 ≠ i_69 ∧ (F_68 td_85).1 ≠ i_69 ∧ syms B_86 = some (L_87.map nI) ∧ n_67 = L_87.length ∧ (∀ x ∈ L_87, x ≤ 1114111)) ∧ 1 + 1 + (runC G_76 s_73 n_67 + ekC c_82 E_83.length n_67) ≤ nc_inC kz Q p.toNatClampNeg + 3 ∧ 6 + 6 + (runZ G_76 s_73 n_67 + ekZ c_82 E_83.length n_67) ≤ nc_inZ kz Q p.toNatClampNeg + 18 ∧ (∀ (S_88 : MM), (itQ S_1 S_88 F_68 i_69 jo_70 (z (30 + n)) r_71 p_72 s_73 A_74 X_75 G_76 T_77 a_80 d_81 c_82 E_83 ea_84 (insO ix_66 L_87)) → (∃ k1, k1 < 1 ∧ I_in2 t p x F X kz Q S k1 [(0, .inr (.inr (some t))), (4, .inl (cntS (syms B_4) 0)), (5, .inl (1 : Int32))] [] S_88 (1 + 1 + (runC G_76 s_73 n_67 + ekC c_82 E_83.length n_67)) (6 + 6 + (runZ G_76 s_73 n_67 + ekZ c_82 E_83.length n_67)))))))))))))))))))))))))))) ∧ ((c = 0) → mthr (sp_win t p x F X kz Q) [.inr (.inr (some t)), .inl p, .inl x] S 1 S (1 + 1) (6 + 6)))))
      have cn : p.toNatClampNeg = n := by rw [hpn]; exact nI_clamp (by omega)
      have hE := hp.2
      rw [cn]
      refine ⟨rfl, hc.elim (fun q => Or.inr q.1) (fun q => Or.inl q.1), by omega, by omega, fun S3 h3 => ?_, fun h0 => ⟨Or.inl ⟨rfl, Or.inr ⟨n, hn, hpn, hc.elim (fun q => absurd (q.1.symm.trans h0) (by decide)) (fun q => q.2)⟩, rfl⟩, by show _ ≤ nc_inC kz Q p.toNatClampNeg + 3; omega, by show _ ≤ nc_inZ kz Q p.toNatClampNeg + 18; omega⟩⟩
      obtain ⟨rfl, rfl⟩ := h3
      obtain ⟨i, hi, exi⟩ : ∃ i, i ≤ visN (Q.G n) (Q.T n) ∧ x = nI i := hc.elim (fun q => q.2) (fun q => absurd q.1 (by decide))
      obtain ⟨A, H, W, r, a', d, ea, kn, kr, cu, hP⟩ := hz.2.1 n hn
      have gi := hP.gi
      have r0 : mR S3 1200 t = some (z 0) := hz.1.1.2.2.1 0 (by decide) (by decide) (by decide) (by decide)
      obtain ⟨dt, ht⟩ := hz.2.2.1
      have same : ∀ v c' z', c' = nc_inC kz Q n + 2 → z' = nc_inZ kz Q n + 12 → ((syms Q.tp = none ∧ v < 0) ∨ ∃ L : List Nat, syms Q.tp = some (L.map nI) ∧ L.length ≤ 32768 ∧ ¬ roP (Q.G n) n L.length ∧ v = nI L.length) → I_in2 t p x F X kz Q S3 0 [(0, .inr (.inr (some t))), (4, .inl v), (5, .inl 0)] [] S3 c' z' := fun v c' z' e1 e2 hv => ⟨n, i, z, v, 0, F, X, kz, Q, rfl, hn, hpn, hi, exi, hz, fun _ _ => rfl, Keep.rf, Or.inr ⟨rfl, rfl, rfl, rfl, hv⟩, rfl, rfl, e1, e2⟩
      refine ⟨hz.1.1.1, rfl, pa_i r0 ⟨dt, Q.tp, ht.1, by omega, by omega, fun q => ⟨fun _ => ⟨0, by decide, ?_⟩, fun w => absurd rfl w⟩, fun q => ?_⟩⟩
      · have e := (cnts_neg ht.1.len).1 q
        exact same _ _ _ (by unfold nc_inC; rw [e]) (by unfold nc_inZ; rw [e]) (Or.inl ⟨e, q⟩)
      · cases e : syms Q.tp with
        | none => exact absurd ((cnts_neg ht.1.len).2 e) q
        | some l =>
          obtain ⟨L, rfl, hL1, hL2⟩ := syms_nat ht.1.bytesLt ht.1.len e
          have ec : cntS (some (L.map nI)) 0 = nI L.length := by show nI (0 + (L.map nI).length) = _; rw [List.length_map, Nat.zero_add]
          rw [ec]
          have eC : nc_inC kz Q n = nc_if (roP (Q.G n) n L.length) (runC (Q.G n) (owN (Q.G n) n) L.length + ekC (kz (30 + n)) (Q.E n).length L.length) 0 := by unfold nc_inC; rw [e]; show nc_if (roP (Q.G n) n (L.map nI).length) _ _ = _; rw [List.length_map]
          have eZ : nc_inZ kz Q n = nc_if (roP (Q.G n) n L.length) (runZ (Q.G n) (owN (Q.G n) n) L.length + ekZ (kz (30 + n)) (Q.E n).length L.length) 0 := by unfold nc_inZ; rw [e]; show nc_if (roP (Q.G n) n (L.map nI).length) _ _ = _; rw [List.length_map]
          refine ⟨rfl, L.length, rfl, n, F, n + 1, A, X n, Q.G n, Q.T n, H, W, ⟨hP.1.1, hP.1.2.2.1, hP.1.2.2.2.1, gi, by omega, by omega⟩, by omega, by omega, fun q0 => ⟨fun _ => ⟨0, by decide, ?_⟩, fun w => absurd rfl w⟩, fun q0 => ⟨fun w => absurd w (by decide), fun _ => ?_⟩⟩
          · have nr : ¬ roP (Q.G n) n L.length := fun w => by rw [tf_t (show L.length = 0 ∨ _ from w)] at q0; exact absurd q0 (by decide)
            exact same _ _ _ (by rw [eC, nc_f nr]) (by rw [eZ, nc_f nr]) (Or.inr ⟨L, e, hL2, nr, rfl⟩)
          · have yr : roP (Q.G n) n L.length := Classical.byContradiction (fun w => q0 (tf_f w))
            have h8 : (Q.G n).n + L.length ≤ 8192 := by
              rcases yr with w | w
              · have := gi.ok.hn; omega
              · exact w.1
            have eC2 := eC.trans (nc_t yr)
            have eZ2 := eZ.trans (nc_t yr)
            have nf : ∀ {b v}, F b = (21, v) → (F b).1 ≠ n + 1 := fun {b v} e w => by rw [e] at w; have w : 21 = n + 1 := w; omega
            refine ⟨hz.1.1.1, rfl, pa_i r0 ⟨i, exi, L.length, rfl, F, n + 1, n + 11, r, n, owN (Q.G n) n, A, X n, Q.G n, Q.T n, H, W, a', d, kz (30 + n), Q.E n, ea, dt, Q.tp, L, ⟨hP.1, hP.2.1, hP.2.2.1, hE n hn, by omega, fun hne => owN_ok (yr.resolve_left hne).2, h8, hi, ht.1, nf ht.2.1, nf ht.2.2.1, e, rfl, hL1⟩, by omega, by omega, fun S4 h4 => ⟨0, by decide, ?_⟩⟩⟩
            obtain ⟨F', A', X', G', T', H', W', w1, w2, w3, w4, w5, w6, w7, w8⟩ := h4
            have hop : (insO i L).length = L.length := insO_len i L
            have hne : insO i L ≠ [] → OwSl (Q.G n) n (owN (Q.G n) n) := fun w => owN_ok (yr.resolve_left (fun w2 => w (List.eq_nil_of_length_eq_zero (by rw [hop]; exact w2)))).2
            have hle := Run.le w6 hne
            have fin : ∀ d' c' E' ea', EdL S4 F' (n + 11) a' d' c' E' ea' → c' = (if L.length = 0 then kz (30 + n) else alK (kz (30 + n)) (Q.E n).length) → E' = (if L.length = 0 then Q.E n else Q.E n ++ [((Q.G n).n, L.length)]) → I_in2 t p x F X kz Q S3 0 [(0, .inr (.inr (some t))), (4, .inl (nI L.length)), (5, .inl 1)] [] S4 (1 + 1 + (runC (Q.G n) (owN (Q.G n) n) L.length + ekC (kz (30 + n)) (Q.E n).length L.length)) (6 + 6 + (runZ (Q.G n) (owN (Q.G n) n) L.length + ekZ (kz (30 + n)) (Q.E n).length L.length)) := fun d' c' E' ea' hed ec' eE' => by
              obtain ⟨g1, g2⟩ := hz.wrote hn hP w1 w2 hed w4 w5 w8 hle
              exact ⟨n, i, z, _, 1, F', _, _, _, rfl, hn, hpn, hi, exi, g1, w4, g2, Or.inl ⟨rfl, L, e, hL2, yr, rfl, G', T', X', w6, rfl, by rw [ec'], by rw [eE']⟩, rfl, rfl, by rw [eC2]; omega, by rw [eZ2]; omega⟩
            rcases w3 with ⟨h0, hed⟩ | ⟨h0, d', ea', hed⟩
            · rw [hop] at h0
              exact fin _ _ _ _ hed (by rw [if_pos h0]) (by rw [if_pos h0])
            · rw [hop] at h0 hed
              exact fin _ _ _ _ hed (by rw [if_neg h0]) (by rw [if_neg h0])
    · cases hm
      obtain ⟨n, i, z, v, b, F1, X1, kz1, Q1, rfl, hn, hpn, hi, exi, hz, hf1, hk1, hc, rfl, rfl, rfl, rfl⟩ := h
      refine ⟨300, ?_⟩
      show (isO S1 12 t ∧ (0 = 0 ∧ ((pa (mR S1 1200 t) fun a_1 => ((isO S1 2 a_1) ∧ nc_inC kz Q n + 2 ≤ nc_inC kz Q p.toNatClampNeg + 3 ∧ nc_inZ kz Q n + 12 ≤ nc_inZ kz Q p.toNatClampNeg + 18 ∧ (((0 ≤ v → ((¬ b = 0 → (([] : List MV) = [] ∧ mret (some .int) (sp_win t p x F X kz Q) [.inr (.inr (some t)), .inl p, .inl x] S (some (.inl v)) (clr S1 a_1) (nc_inC kz Q n + 2) (nc_inZ kz Q n + 12))) ∧ (b = 0 → (mthr (sp_win t p x F X kz Q) [.inr (.inr (some t)), .inl p, .inl x] S 0 (clr S1 a_1) (nc_inC kz Q n + 2 + 1) (nc_inZ kz Q n + 12 + 6))))) ∧ (¬ 0 ≤ v → (mthr (sp_win t p x F X kz Q) [.inr (.inr (some t)), .inl p, .inl x] S 3 (clr S1 a_1) (nc_inC kz Q n + 2 + 1) (nc_inZ kz Q n + 12 + 6))))))))))
      have cn : p.toNatClampNeg = n := by rw [hpn]; exact nI_clamp (by omega)
      rw [cn]
      have r0 : mR S1 1200 t = some (z 0) := hz.1.1.2.2.1 0 (by decide) (by decide) (by decide) (by decide)
      obtain ⟨dt, ht⟩ := hz.2.2.1
      obtain ⟨c1, c2⟩ := hz.clrT
      have wq : wtQ S (clr S1 (z 0)) F t X1 kz1 (Q1.sTp []) := ⟨F1, ⟨z, c1⟩, hf1, hk1.trN c2 (fun b hb e => by show cO (F b).1; rw [← hf1 b hb, e]; exact ⟨by decide, by decide⟩)⟩
      have cst : ∀ a d : Nat, a ≤ nc_inC kz Q n + 3 → d ≤ nc_inZ kz Q n + 18 → a ≤ (sp_win t p x F X kz Q).2.1 [.inr (.inr (some t)), .inl p, .inl x] S ∧ d ≤ (sp_win t p x F X kz Q).2.2.1 [.inr (.inr (some t)), .inl p, .inl x] S := fun a d h1 h2 => ⟨by show a ≤ nc_inC kz Q p.toNatClampNeg + 3; rw [cn]; exact h1, by show d ≤ nc_inZ kz Q p.toNatClampNeg + 18; rw [cn]; exact h2⟩
      refine ⟨hz.1.1.1, rfl, pa_i r0 ⟨ht.1.1, by omega, by omega, fun v0 => ⟨fun hb => ⟨rfl, trivial, ?_, cst _ _ (by omega) (by omega)⟩, fun hb => ⟨?_, cst _ _ (by omega) (by omega)⟩⟩, fun v0 => ⟨?_, cst _ _ (by omega) (by omega)⟩⟩⟩
      · obtain ⟨-, L, e1, e2, e3, e4, e5⟩ := hc.resolve_right (fun q => hb q.1)
        exact ⟨_, rfl, n, i, L, Q1, X1, kz1, hn, hpn, hi, exi, e1, e3, e4, e5, wq⟩
      · obtain ⟨-, rfl, rfl, rfl, hv⟩ := hc.resolve_left (fun q => absurd (q.1.symm.trans hb) (by decide))
        obtain ⟨L, e1, e2, e3, e4⟩ := hv.resolve_left (fun q => Int32.not_lt.2 v0 q.2)
        exact Or.inr (Or.inr ⟨rfl, ⟨n, i, L, hn, hpn, hi, exi, e1, e3⟩, wq⟩)
      · rcases hc with ⟨-, L, e1, e2, e3, e4, e5⟩ | ⟨-, rfl, rfl, rfl, hv⟩
        · rw [e4] at v0; exact absurd (nI_pos' (by omega)) v0
        · obtain ⟨e1, e2⟩ := hv.resolve_right (fun ⟨L, e1, e2, e3, e4⟩ => by rw [e4] at v0; exact absurd (nI_pos' (by omega)) v0)
          exact Or.inr (Or.inl ⟨rfl, ⟨n, i, hn, hpn, hi, exi⟩, e1, wq⟩)
theorem u_win (l : Launch) (hlt : l.stackTraces = false) : UsX l yX11_insert (Cond.code yX11_insert cX11_insert 6 (some .int)) (some .int) 10 245 12 T_win := by
  intro Rc Rs av S cs sl K Kx h
  unfold T_win at h
  split at h
  · rename_i t_o p x
    obtain ⟨t, rfl, h_1⟩ := pa_of h
    obtain ⟨F, X, kz, Q, hp, hc, hs, hk, hx0, hx1, hx2⟩ := h_1
    refine ⟨(sp_win t p x F X kz Q), c_win l hlt t p x F X kz Q, fun _ _ h9 => ⟨_, _, h9.1, h9.2.1.choose_spec.1.1.1⟩, ⟨rfl, hp⟩, hc, hs, fun v9 S' h8 => by
      obtain ⟨v8, h7, h8⟩ := h8
      cases h7
      exact hk _ _ h8, fun _ _ q => by
      rcases q with ⟨rfl, q⟩ | ⟨rfl, q⟩ | ⟨rfl, q⟩
      · obtain ⟨q, rfl⟩ := q
        exact hx0 q
      · exact hx1 _ q
      · exact hx2 _ q⟩
  · exact h.elim
theorem sub_toInt {a b : Nat} (ha : a < 1073741824) (hb : b < 2147483648) : (nI a - nI b).toInt = (a : Int) - b := by
  rw [Int32.toInt_sub, nI_toInt (by omega), nI_toInt hb, Int.bmod_eq_of_le (by omega) (by omega)]
/-! delete -/
def dlOk (Q : Ab) (n : Nat) (x y : Int32) (i m : Nat) : Prop := 1 ≤ m ∧ i + m ≤ visN (Q.G n) (Q.T n) ∧ x = nI i ∧ y = nI m
def opR (Q : Ab) (X : Nat → GX) (kz : Nat → Nat) (n : Nat) (ops : List (Option Nat × Nat)) (Q1 : Ab) (X1 : Nat → GX) (kz1 : Nat → Nat) : Prop := ∃ G' T' X', Run n (owN (Q.G n) n) ops (Q.G n) (Q.T n) G' T' ∧ X1 = upF X n X' ∧ kz1 = upF kz (30 + n) (alK (kz (30 + n)) (Q.E n).length) ∧ Q1 = Q.sPe n G' T' (Q.E n ++ [((Q.G n).n, ops.length)])
noncomputable def nc_dlC (kz : Nat → Nat) (Q : Ab) (n m : Nat) : Nat := nc_if (roP (Q.G n) n m) (runC (Q.G n) (owN (Q.G n) n) m + ekC (kz (30 + n)) (Q.E n).length m) 0
noncomputable def nc_dlZ (kz : Nat → Nat) (Q : Ab) (n m : Nat) : Nat := nc_if (roP (Q.G n) n m) (runZ (Q.G n) (owN (Q.G n) n) m + ekZ (kz (30 + n)) (Q.E n).length m) 0
def I_dl (t : Nat) (p x y : Int32) (F : Nat → Nat × Nat) (X : Nat → GX) (kz : Nat → Nat) (Q : Ab) (S : MM) (k : Nat) : KT := fun lo st S1 cs sl => ∃ c n z, k = 0 ∧ WTz S F t z X kz Q ∧ n < 4 ∧ p = nI n ∧ ((c = 1 ∧ ∃ i m, dlOk Q n x y i m) ∨ (c = 0 ∧ ¬ ∃ i m, dlOk Q n x y i m)) ∧ lo = [(2, .inl x), (3, .inl y), (4, .inr (.inr (some (z (30 + n)))))] ∧ st = [.inl c] ∧ S = S1 ∧ cs = 1 ∧ sl = 6
def T_wdl : TR := fun Rc Rs av S cs sl K Kx => match av with
  | [.inr (.inr t_o), .inl p, .inl x, .inl y] => pa t_o fun t => (∃ (F : Nat → Nat × Nat) (X : Nat → GX) (kz : Nat → Nat) (Q : Ab), (WT S F t X kz Q ∧ AbE kz) ∧ cs + (nc_dlC kz Q p.toNatClampNeg y.toNatClampNeg + 3) ≤ Rc ∧ sl + (nc_dlZ kz Q p.toNatClampNeg y.toNatClampNeg + 18) ≤ Rs ∧ ((∀ (v : Int32) (S' : MM), (∃ (n i m : Nat) (Q1 : Ab) (X1 : Nat → GX) (kz1 : Nat → Nat), n < 4 ∧ p = nI n ∧ dlOk Q n x y i m ∧ roP (Q.G n) n m ∧ opR Q X kz n (List.replicate m (none, i)) Q1 X1 kz1 ∧ v = nI (visN (Q1.G n) (Q1.T n)) ∧ wtQ S S' F t X1 kz1 Q1) → K (some (.inl v)) S' (cs + (nc_dlC kz Q p.toNatClampNeg y.toNatClampNeg + 3)) (sl + (nc_dlZ kz Q p.toNatClampNeg y.toNatClampNeg + 18))) ∧ ((np 4 p ∨ ∃ n, n < 4 ∧ p = nI n ∧ ¬ ∃ i m, dlOk Q n x y i m) → Kx 1 S (cs + (nc_dlC kz Q p.toNatClampNeg y.toNatClampNeg + 3)) (sl + (nc_dlZ kz Q p.toNatClampNeg y.toNatClampNeg + 18))) ∧ ((∃ n i m, n < 4 ∧ p = nI n ∧ dlOk Q n x y i m ∧ ¬ roP (Q.G n) n m) → Kx 0 S (cs + (nc_dlC kz Q p.toNatClampNeg y.toNatClampNeg + 3)) (sl + (nc_dlZ kz Q p.toNatClampNeg y.toNatClampNeg + 18)))))
  | _ => False
noncomputable def sp_wdl (t : Nat) (p : Int32) (x : Int32) (y : Int32) (F : Nat → Nat × Nat) (X : Nat → GX) (kz : Nat → Nat) (Q : Ab) : Sp := (fun av S => av = [.inr (.inr (some t)), .inl p, .inl x, .inl y] ∧ (WT S F t X kz Q ∧ AbE kz), fun _ S => nc_dlC kz Q p.toNatClampNeg y.toNatClampNeg + 3, fun _ S => nc_dlZ kz Q p.toNatClampNeg y.toNatClampNeg + 18, fun _ S rv S' => ∃ v, rv = (some (.inl v)) ∧ (∃ (n i m : Nat) (Q1 : Ab) (X1 : Nat → GX) (kz1 : Nat → Nat), n < 4 ∧ p = nI n ∧ dlOk Q n x y i m ∧ roP (Q.G n) n m ∧ opR Q X kz n (List.replicate m (none, i)) Q1 X1 kz1 ∧ v = nI (visN (Q1.G n) (Q1.T n)) ∧ wtQ S S' F t X1 kz1 Q1), fun _ S E S' => (E = 1 ∧ (np 4 p ∨ ∃ n, n < 4 ∧ p = nI n ∧ ¬ ∃ i m, dlOk Q n x y i m) ∧ S' = S) ∨ (E = 0 ∧ (∃ n i m, n < 4 ∧ p = nI n ∧ dlOk Q n x y i m ∧ ¬ roP (Q.G n) n m) ∧ S' = S))
def tX11_delete : CD := [(0, .aload_n 0), (1, .iload_n 1), (2, .invokevirtual 108), (5, .astore 4), (7, .iload_n 3), (8, .iconst 1), (9, .if_icmp .lt 25), (12, .iload_n 2), (13, .ifCond .lt 21), (16, .iload_n 2), (17, .aload 4), (19, .getfield 112), (22, .getfield 116), (25, .iload_n 3), (26, .isub), (27, .if_icmp .gt 7), (30, .iconst 1), (31, .goto 4), (34, .iconst 0), (35, .invokestatic 104), (38, .aload 4), (40, .iload_n 3), (41, .invokevirtual 125), (44, .ifCond .ne 11), (47, .new 98), (50, .dup), (51, .invokespecial 100), (54, .athrow), (55, .aload 4), (57, .iload_n 2), (58, .iload_n 3), (59, .invokevirtual 139), (62, .aload 4), (64, .getfield 112), (67, .getfield 116), (70, .ireturn)]
set_option maxRecDepth 100000 in
theorem kX11_delete : chk cX11_delete tX11_delete = true := by decide +kernel
theorem vX11_delete_108 : ∀ w ∈ ([.methodLink RX11 108 yX11_peerOf, .instanceMethod yX11_peerOf, .selects yX11_peerOf.cls yX11_peerOf yX11_peerOf, .initialized yX11_peerOf.cls, .code yX11_peerOf cX11_peerOf 2 (some (.object "WeaveText$Peer"))] : List Cond), w ∈ lw_good := List.forall_mem_cons.mpr ⟨mgd 827 (by decide +kernel) (by decide +kernel), List.forall_mem_cons.mpr ⟨mgd 829 (by decide +kernel) (by decide +kernel), List.forall_mem_cons.mpr ⟨mgd 1 (by decide +kernel) (by decide +kernel), List.forall_mem_cons.mpr ⟨mgd 121 (by decide +kernel) (by decide +kernel), List.forall_mem_cons.mpr ⟨mgd 830 (by decide +kernel) (by decide +kernel), fun _ h => absurd h List.not_mem_nil⟩⟩⟩⟩⟩
theorem vX11_delete_104 : ∀ w ∈ ([.methodLink RX11 104 yX11_require, .static yX11_require, .initialized yX11_require.cls, .code yX11_require cX11_require 1 none] : List Cond), w ∈ lw_good := List.forall_mem_cons.mpr ⟨mgd 801 (by decide +kernel) (by decide +kernel), List.forall_mem_cons.mpr ⟨mgd 802 (by decide +kernel) (by decide +kernel), List.forall_mem_cons.mpr ⟨mgd 121 (by decide +kernel) (by decide +kernel), List.forall_mem_cons.mpr ⟨mgd 803 (by decide +kernel) (by decide +kernel), fun _ h => absurd h List.not_mem_nil⟩⟩⟩⟩
theorem vX11_delete_125 : ∀ w ∈ ([.methodLink RX11 125 yX10_hasRoom, .instanceMethod yX10_hasRoom, .selects yX10_hasRoom.cls yX10_hasRoom yX10_hasRoom, .initialized yX10_hasRoom.cls, .code yX10_hasRoom cX10_hasRoom 2 (some .boolean)] : List Cond), w ∈ lw_good := List.forall_mem_cons.mpr ⟨mgd 853 (by decide +kernel) (by decide +kernel), List.forall_mem_cons.mpr ⟨mgd 854 (by decide +kernel) (by decide +kernel), List.forall_mem_cons.mpr ⟨mgd 855 (by decide +kernel) (by decide +kernel), List.forall_mem_cons.mpr ⟨mgd 124 (by decide +kernel) (by decide +kernel), List.forall_mem_cons.mpr ⟨mgd 856 (by decide +kernel) (by decide +kernel), fun _ h => absurd h List.not_mem_nil⟩⟩⟩⟩⟩
theorem vX11_delete_139 : ∀ w ∈ ([.methodLink RX11 139 yX10_deleteText, .instanceMethod yX10_deleteText, .selects yX10_deleteText.cls yX10_deleteText yX10_deleteText, .initialized yX10_deleteText.cls, .code yX10_deleteText cX10_deleteText 4 none] : List Cond), w ∈ lw_good := List.forall_mem_cons.mpr ⟨mgd 1078 (by decide +kernel) (by decide +kernel), List.forall_mem_cons.mpr ⟨mgd 1079 (by decide +kernel) (by decide +kernel), List.forall_mem_cons.mpr ⟨mgd 1080 (by decide +kernel) (by decide +kernel), List.forall_mem_cons.mpr ⟨mgd 124 (by decide +kernel) (by decide +kernel), List.forall_mem_cons.mpr ⟨mgd 1081 (by decide +kernel) (by decide +kernel), fun _ h => absurd h List.not_mem_nil⟩⟩⟩⟩⟩
set_option maxRecDepth 100000 in
set_option maxHeartbeats 2000000 in
theorem c_wdl (l : Launch) (hlt : l.stackTraces = false) : ∀ (t : Nat) (p : Int32) (x : Int32) (y : Int32) (F : Nat → Nat × Nat) (X : Nat → GX) (kz : Nat → Nat) (Q : Ab), CtX l yX11_delete (Cond.code yX11_delete cX11_delete 5 (some .int)) (some .int) 10 242 (sp_wdl t p x y F X kz Q) := by
  intro t p x y F X kz Q
  refine CtX.of hlt (fX11, nX11, aX11, iX11, lX11, [(108, 0, 2, 3, T_wpo), (104, 2, 1, 0, T_wrq), (125, 0, 2, 1, T_phr), (139, 0, 3, 0, T_pdt)], qX11, gX11, thX11) false tX11_delete (fun _ S => look [(35, ([2,3,4], I_dl t p x y F X kz Q S))]) (by decide) (by decide) kX11_delete ⟨_, _, rfl⟩ fX11_ok nX11_ok aX11_ok iX11_ok lX11_ok (fun p e R s m args below meth c Q D cy z r A C hR1 hR2 => List.forall_mem_cons.mpr ⟨cOK_use (fun _ _ _ _ _ _ _ _ h => let ⟨sp, h1, h2, h3⟩ := u_wpo l hlt _ _ _ _ _ _ _ _ h; ⟨sp, cOKx_V C h1 vX11_delete_108 ⟨by decide, by decide, by decide +kernel⟩ ⟨by rw [hR1]; decide, by rw [hR2]; decide⟩ (k := 12) (T := TX11) (N := 15) rfl (by decide) h2, h3⟩), List.forall_mem_cons.mpr ⟨cOK_use (fun _ _ _ _ _ _ _ _ h => let ⟨sp, h1, _, h3⟩ := u_wrq l hlt _ _ _ _ _ _ _ _ h; ⟨sp, cOKx_S C h1 vX11_delete_104 ⟨by decide, by decide, by decide +kernel⟩ ⟨by rw [hR1]; decide, by rw [hR2]; decide⟩, h3⟩), List.forall_mem_cons.mpr ⟨cOK_use (fun _ _ _ _ _ _ _ _ h => let ⟨sp, h1, h2, h3⟩ := u_phr l _ _ _ _ _ _ _ _ h; ⟨sp, cOK_V C h1 vX11_delete_125 ⟨by decide, by decide, by decide +kernel⟩ ⟨by rw [hR1]; decide, by rw [hR2]; decide⟩ (k := 11) (T := TX10) (N := 6) rfl (by decide) h2, h3⟩), List.forall_mem_cons.mpr ⟨cOK_use (fun _ _ _ _ _ _ _ _ h => let ⟨sp, h1, h2, h3⟩ := u_pdt l _ _ _ _ _ _ _ _ h; ⟨sp, cOK_V C h1 vX11_delete_139 ⟨by decide, by decide, by decide +kernel⟩ ⟨by rw [hR1]; decide, by rw [hR2]; decide⟩ (k := 11) (T := TX10) (N := 6) rfl (by decide) h2, h3⟩), fun _ h => absurd h List.not_mem_nil⟩⟩⟩⟩) qX11_ok gX11_ok (fun q hq => ⟨thX11_ok q hq, by decide, by decide⟩) ?_ ?_
  · rintro _ S ⟨rfl, hp⟩
    refine ⟨Nat.le_of_ble_eq_true rfl, 300, ?_⟩
    show (0 = 0 ∧ (∃ (F_1 : Nat → Nat × Nat) (z_2 : Nat → Nat), (SfA S F_1 t z_2) ∧ 0 + 1 ≤ nc_dlC kz Q p.toNatClampNeg y.toNatClampNeg + 3 ∧ 0 + 6 ≤ nc_dlZ kz Q p.toNatClampNeg y.toNatClampNeg + 18 ∧ ((∀ (x_4 : Option Nat) (S_3 : MM), (S_3 = S ∧ ∃ n, n < 4 ∧ p = nI n ∧ x_4 = some (z_2 (30 + n))) → ((y < (1 : Int32) → (∃ k1, I_dl t p x y F X kz Q S k1 [(2, .inl x), (3, .inl y), (4, .inr (.inr x_4))] [.inl (0 : Int32)] S_3 (0 + 1) (0 + 6))) ∧ (¬ y < (1 : Int32) → ((x < 0 → (∃ k1, I_dl t p x y F X kz Q S k1 [(2, .inl x), (3, .inl y), (4, .inr (.inr x_4))] [.inl (0 : Int32)] S_3 (0 + 1) (0 + 6))) ∧ (¬ x < 0 → (pa x_4 fun a_5 => isO S_3 11 a_5 ∧ (pa (mR S_3 1101 a_5) fun a_6 => isO S_3 6 a_6 ∧ ((((mI S_3 605 a_6) - y) < x → (∃ k1, I_dl t p x y F X kz Q S k1 [(2, .inl x), (3, .inl y), (4, .inr (.inr x_4))] [.inl (0 : Int32)] S_3 (0 + 1) (0 + 6))) ∧ (¬ ((mI S_3 605 a_6) - y) < x → (∃ k1, I_dl t p x y F X kz Q S k1 [(2, .inl x), (3, .inl y), (4, .inr (.inr x_4))] [.inl (1 : Int32)] S_3 (0 + 1) (0 + 6))))))))))) ∧ ((np 4 p) → mthr (sp_wdl t p x y F X kz Q) [.inr (.inr (some t)), .inl p, .inl x, .inl y] S 1 S (0 + 1) (0 + 6)))))
    obtain ⟨⟨z, hz⟩, hE⟩ := hp
    refine ⟨rfl, F, z, hz.1.1, by omega, by omega, fun v S3 h => ?_, fun h => ⟨Or.inl ⟨rfl, Or.inl h, rfl⟩, by show _ ≤ nc_dlC kz Q p.toNatClampNeg y.toNatClampNeg + 3; omega, by show _ ≤ nc_dlZ kz Q p.toNatClampNeg y.toNatClampNeg + 18; omega⟩⟩
    obtain ⟨rfl, n, hn, rfl, rfl⟩ := h
    obtain ⟨A, H, W, r, a', d, ea, kn, kr, cu, hP⟩ := hz.2.1 n hn
    have g := hP.gi
    have r1 : mR S3 1101 (z (30 + n)) = some (A 0) := hP.1.2.2.2.1
    have m5 : mI S3 605 (A 0) = nI (visN (Q.G n) (Q.T n)) := g 6
    have vl := g.vl
    have bad : (¬ ∃ i m, dlOk Q n x y i m) → ∃ k1, I_dl t (nI n) x y F X kz Q S3 k1 [(2, .inl x), (3, .inl y), (4, .inr (.inr (some (z (30 + n)))))] [.inl 0] S3 (0 + 1) (0 + 6) := fun q => ⟨0, 0, n, z, rfl, hz, hn, rfl, Or.inr ⟨rfl, q⟩, rfl, rfl, rfl, rfl, rfl⟩
    refine ⟨fun q => bad (fun ⟨i, m, o1, o2, o3, o4⟩ => ?_), fun q1 => ⟨fun q => bad (fun ⟨i, m, o1, o2, o3, o4⟩ => ?_), fun q2 => pa_i rfl ⟨hP.1.1, pa_i r1 ⟨(g 0).1, ?_⟩⟩⟩⟩
    · rw [o4] at q
      have := (nI_ltI (a := m) (b := 1) (by omega) (by decide)).1 q
      omega
    · rw [o3] at q; exact absurd q (nI_pos (by omega))
    · rw [m5]
      have y0 : ¬ y < 0 := fun w => q1 (Int32.lt_trans w (by decide))
      obtain ⟨m, hm, rfl⟩ := nI_of y0
      obtain ⟨i, hi, rfl⟩ := nI_of q2
      have m1 : 1 ≤ m := Nat.le_of_not_lt (fun w => q1 ((nI_ltI (a := m) (b := 1) hm (by decide)).2 w))
      have sb : (nI (visN (Q.G n) (Q.T n)) - nI m).toInt = (visN (Q.G n) (Q.T n) : Int) - m := sub_toInt (by omega) hm
      have ie : (nI i).toInt = (i : Int) := nI_toInt hi
      refine ⟨fun q => bad (fun ⟨i2, m2, o1, o2, o3, o4⟩ => ?_), fun q => ⟨0, 1, n, z, rfl, hz, hn, rfl, Or.inl ⟨rfl, i, m, m1, ?_, rfl, rfl⟩, rfl, rfl, rfl, rfl, rfl⟩⟩
      · have a1 := Int32.lt_iff_toInt_lt.1 q
        rw [sb, ie] at a1
        have e1 := (nI_eq hi (by omega)).1 o3
        have e2 := (nI_eq hm (by omega)).1 o4
        omega
      · have a1 : ¬ (nI (visN (Q.G n) (Q.T n)) - nI m).toInt < (nI i).toInt := fun w => q (Int32.lt_iff_toInt_lt.2 w)
        rw [sb, ie] at a1
        omega
  · intro av S hpre pc I hI k lo st S1 cs sl h
    obtain ⟨rfl, hp⟩ := hpre
    have hm := look_in hI
    rw [List.mem_singleton] at hm
    cases hm
    obtain ⟨c, n, z, rfl, hz, hn, hpn, hc, rfl, rfl, rfl, rfl, rfl⟩ := h
    refine ⟨300, ?_⟩
    show (2 = 2 ∧ ((c = 0 ∨ c = 1) ∧ 1 + 1 ≤ nc_dlC kz Q p.toNatClampNeg y.toNatClampNeg + 3 ∧ 6 + 6 ≤ nc_dlZ kz Q p.toNatClampNeg y.toNatClampNeg + 18 ∧ ((∀ (S_1 : MM), (S_1 = S ∧ c = 1) → (0 = 0 ∧ (∃ (n_2 : Nat), y = nI n_2 ∧ (∃ (p_3 : Nat) (F_4 : Nat → Nat × Nat) (i_5 : Nat) (A_6 : Nat → Nat) (X_7 : GX) (G_8 : Gr) (T_9 : Tr) (H_10 : List Nat) (W_11 : Nat → Nat), (isO S_1 11 (z (30 + n)) ∧ mI S_1 1100 (z (30 + n)) = nI p_3 ∧ mR S_1 1101 (z (30 + n)) = some (A_6 0) ∧ GI S_1 F_4 i_5 A_6 X_7 G_8 T_9 H_10 W_11 ∧ p_3 < 256 ∧ n_2 ≤ 1000000) ∧ 1 + 1 ≤ nc_dlC kz Q p.toNatClampNeg y.toNatClampNeg + 3 ∧ 6 + 6 ≤ nc_dlZ kz Q p.toNatClampNeg y.toNatClampNeg + 18 ∧ (((¬ (tf (n_2 = 0 ∨ (G_8.n + n_2 ≤ 8192 ∧ (hasAg G_8 p_3 ∨ G_8.m < 16)))) = 0 → (0 = 0 ∧ (∃ (ix_13 : Nat), x = nI ix_13 ∧ (∃ (n_14 : Nat), y = nI n_14 ∧ (∃ (F_15 : Nat → Nat × Nat) (i_16 jo_17 r_18 p_19 s_20 : Nat) (A_21 : Nat → Nat) (X_22 : GX) (G_23 : Gr) (T_24 : Tr) (H_25 : List Nat) (W_26 : Nat → Nat) (a_27 d_28 c_29 : Nat) (E_30 : List (Nat × Nat)) (ea_31 : Nat → Nat), (WrR S_1 F_15 i_16 jo_17 (z (30 + n)) r_18 p_19 A_21 X_22 G_23 T_24 H_25 W_26 ∧ mR S_1 1102 (z (30 + n)) = some a_27 ∧ EdL S_1 F_15 jo_17 a_27 d_28 c_29 E_30 ea_31 ∧ c_29 ≤ 50000 ∧ p_19 < 256 ∧ OwSl G_23 p_19 s_20 ∧ G_23.n + n_14 ≤ 8192 ∧ ix_13 + n_14 ≤ visN G_23 T_24 ∧ 1 ≤ n_14) ∧ 1 + 1 + (runC G_23 s_20 n_14 + ekC c_29 E_30.length n_14) ≤ nc_dlC kz Q p.toNatClampNeg y.toNatClampNeg + 3 ∧ 6 + 6 + (runZ G_23 s_20 n_14 + ekZ c_29 E_30.length n_14) ≤ nc_dlZ kz Q p.toNatClampNeg y.toNatClampNeg + 18 ∧ (∀ (S_32 : MM), (dtQ S_1 S_32 F_15 i_16 jo_17 (z (30 + n)) r_18 p_19 s_20 A_21 X_22 G_23 T_24 a_27 c_29 E_30 (List.replicate n_14 (none, ix_13))) → (isO S_32 11 (z (30 + n)) ∧ (pa (mR S_32 1101 (z (30 + n))) fun a_33 => isO S_32 6 a_33 ∧ (([] : List MV) = [] ∧ mret (some .int) (sp_wdl t p x y F X kz Q) [.inr (.inr (some t)), .inl p, .inl x, .inl y] S (some (.inl (mI S_32 605 a_33))) S_32 (1 + 1 + (runC G_23 s_20 n_14 + ekC c_29 E_30.length n_14)) (6 + 6 + (runZ G_23 s_20 n_14 + ekZ c_29 E_30.length n_14))))))))))) ∧ ((tf (n_2 = 0 ∨ (G_8.n + n_2 ≤ 8192 ∧ (hasAg G_8 p_3 ∨ G_8.m < 16)))) = 0 → (mthr (sp_wdl t p x y F X kz Q) [.inr (.inr (some t)), .inl p, .inl x, .inl y] S 0 S_1 (1 + 1 + 1) (6 + 6 + 6))))))))) ∧ ((c = 0) → mthr (sp_wdl t p x y F X kz Q) [.inr (.inr (some t)), .inl p, .inl x, .inl y] S 1 S (1 + 1) (6 + 6)))))
    have cn : p.toNatClampNeg = n := by rw [hpn]; exact nI_clamp (by omega)
    have hE := hp.2
    rw [cn]
    refine ⟨rfl, hc.elim (fun q => Or.inr q.1) (fun q => Or.inl q.1), by omega, by omega, fun S3 h3 => ?_, fun h0 => ⟨Or.inl ⟨rfl, Or.inr ⟨n, hn, hpn, hc.elim (fun q => absurd (q.1.symm.trans h0) (by decide)) (fun q => q.2)⟩, rfl⟩, by show _ ≤ nc_dlC kz Q p.toNatClampNeg y.toNatClampNeg + 3; omega, by show _ ≤ nc_dlZ kz Q p.toNatClampNeg y.toNatClampNeg + 18; omega⟩⟩
    obtain ⟨rfl, rfl⟩ := h3
    obtain ⟨i, m, hok⟩ : ∃ i m, dlOk Q n x y i m := hc.elim (fun q => q.2) (fun q => absurd q.1 (by decide))
    obtain ⟨o1, o2, o3, o4⟩ := id hok
    obtain ⟨A, H, W, r, a', d, ea, kn, kr, cu, hP⟩ := hz.2.1 n hn
    have gi := hP.gi
    have vl := gi.vl
    have cm : y.toNatClampNeg = m := by rw [o4]; exact nI_clamp (by omega)
    rw [cm]
    have cst : ∀ a d : Nat, a ≤ nc_dlC kz Q n m + 3 → d ≤ nc_dlZ kz Q n m + 18 → a ≤ (sp_wdl t p x y F X kz Q).2.1 [.inr (.inr (some t)), .inl p, .inl x, .inl y] S3 ∧ d ≤ (sp_wdl t p x y F X kz Q).2.2.1 [.inr (.inr (some t)), .inl p, .inl x, .inl y] S3 := fun a d h1 h2 => ⟨by show a ≤ nc_dlC kz Q p.toNatClampNeg y.toNatClampNeg + 3; rw [cn, cm]; exact h1, by show d ≤ nc_dlZ kz Q p.toNatClampNeg y.toNatClampNeg + 18; rw [cn, cm]; exact h2⟩
    refine ⟨rfl, m, o4, n, F, n + 1, A, X n, Q.G n, Q.T n, H, W, ⟨hP.1.1, hP.1.2.2.1, hP.1.2.2.2.1, gi, by omega, by omega⟩, by omega, by omega, fun q0 => ?_, fun q0 => ⟨Or.inr ⟨rfl, ⟨n, i, m, hn, hpn, hok, fun w => ?_⟩, rfl⟩, cst _ _ (by omega) (by omega)⟩⟩
    · have yr : roP (Q.G n) n m := Classical.byContradiction (fun w => q0 (tf_f w))
      obtain ⟨y1, y2⟩ := yr.resolve_left (by omega)
      have eC : nc_dlC kz Q n m = runC (Q.G n) (owN (Q.G n) n) m + ekC (kz (30 + n)) (Q.E n).length m := nc_t yr
      have eZ : nc_dlZ kz Q n m = runZ (Q.G n) (owN (Q.G n) n) m + ekZ (kz (30 + n)) (Q.E n).length m := nc_t yr
      rw [eC, eZ]
      refine ⟨rfl, i, o3, m, o4, F, n + 1, n + 11, r, n, owN (Q.G n) n, A, X n, Q.G n, Q.T n, H, W, a', d, kz (30 + n), Q.E n, ea, ⟨hP.1, hP.2.1, hP.2.2.1, hE n hn, by omega, owN_ok y2, y1, o2, o1⟩, by omega, by omega, fun S4 h4 => ?_⟩
      obtain ⟨F', A', X', G', T', H', W', d', ea', w1, w2, w3, w4, w5, w6, w7, w8⟩ := h4
      have hle := Run.le w6 (fun _ => owN_ok y2)
      obtain ⟨g1, g2⟩ := hz.wrote hn hP w1 w2 w3 w4 w5 w8 hle
      have r9 : mR S4 1101 (z (30 + n)) = some (A' 0) := w1.2.2.2.1
      have gi4 := w1.2.2.2.2.2.2.2.2.1
      refine ⟨w1.1, pa_i r9 ⟨(gi4 0).1, rfl, trivial, ⟨_, rfl, n, i, m, _, _, _, hn, hpn, hok, yr, ⟨G', T', X', w6, rfl, rfl, rfl⟩, ?_, F', ⟨z, g1⟩, w4, g2⟩, cst _ _ (by rw [eC]; omega) (by rw [eZ]; omega)⟩⟩
      rw [show (Q.sPe n G' T' (Q.E n ++ [((Q.G n).n, (List.replicate m ((none : Option Nat), i)).length)])).G n = G' from upF_s, show (Q.sPe n G' T' (Q.E n ++ [((Q.G n).n, (List.replicate m ((none : Option Nat), i)).length)])).T n = T' from upF_s]
      exact gi4 6
    · rw [tf_t (show m = 0 ∨ _ from w)] at q0; exact absurd q0 (by decide)
theorem u_wdl (l : Launch) (hlt : l.stackTraces = false) : UsX l yX11_delete (Cond.code yX11_delete cX11_delete 5 (some .int)) (some .int) 10 242 12 T_wdl := by
  intro Rc Rs av S cs sl K Kx h
  unfold T_wdl at h
  split at h
  · rename_i t_o p x y
    obtain ⟨t, rfl, h_1⟩ := pa_of h
    obtain ⟨F, X, kz, Q, hp, hc, hs, hk, hx0, hx1⟩ := h_1
    refine ⟨(sp_wdl t p x y F X kz Q), c_wdl l hlt t p x y F X kz Q, fun _ _ h9 => ⟨_, _, h9.1, h9.2.1.choose_spec.1.1.1⟩, ⟨rfl, hp⟩, hc, hs, fun v9 S' h8 => by
      obtain ⟨v8, h7, h8⟩ := h8
      cases h7
      exact hk _ _ h8, fun _ _ q => by
      rcases q with ⟨rfl, q⟩ | ⟨rfl, q⟩
      · obtain ⟨q, rfl⟩ := q
        exact hx0 q
      · obtain ⟨q, rfl⟩ := q
        exact hx1 q⟩
  · exact h.elim
/-! undo -/
def EdW (G : Gr) (T : Tr) (p : Nat) (E : List (Nat × Nat)) : Prop := ∀ e ∈ E, 1 ≤ e.2 ∧ e.1 + e.2 ≤ G.n ∧ EdOk G T e.1 e.2 ∧ hasAg G p
noncomputable def nc_unC (Q : Ab) (n : Nat) : Nat := match (Q.E n).getLast? with
  | none => 0
  | some e => nc_if (roP (Q.G n) n (cuN (Q.G n) e.1 e.2)) (runC (Q.G n) (owN (Q.G n) n) (cuN (Q.G n) e.1 e.2)) 0
noncomputable def nc_unZ (Q : Ab) (n : Nat) : Nat := match (Q.E n).getLast? with
  | none => 0
  | some e => nc_if (roP (Q.G n) n (cuN (Q.G n) e.1 e.2)) (runZ (Q.G n) (owN (Q.G n) n) (cuN (Q.G n) e.1 e.2)) 0
def undR (Q : Ab) (X : Nat → GX) (n : Nat) (e : Nat × Nat) (Q1 : Ab) (X1 : Nat → GX) : Prop := ∃ G' T' X', UndR n (owN (Q.G n) n) e.1 e.2 (Q.G n) (Q.T n) G' T' ∧ X1 = upF X n X' ∧ Q1 = Q.sPe n G' T' (Q.E n).dropLast
theorem UnD.le {p s fi : Nat} {R : Nat → Nat} : ∀ {k : Nat} {G : Gr} {T : Tr} {G' : Gr} {T' : Tr}, UnD p s fi R k G T G' T' → OwSl G p s → G.n ≤ G'.n
  | 0, G, T, G', T', h, _ => by rw [h.1]; exact Nat.le_refl _
  | k + 1, G, T, G', T', h, ho => by
    rcases h with ⟨-, G1, T1, ⟨H, hH, h1⟩, h2⟩ | ⟨-, h2⟩
    · obtain ⟨n1, n2, n3, n4, -⟩ := h1.nx ho.eg
      have := UnD.le h2 (Or.inl ⟨n3, n4⟩)
      omega
    · exact UnD.le h2 ho
theorem UndR.le {p s fi sz : Nat} {G : Gr} {T : Tr} {G' : Gr} {T' : Tr} (h : UndR p s fi sz G T G' T') (ho : OwSl G p s) : G.n ≤ G'.n := by
  rcases h with ⟨-, h⟩ | ⟨-, h⟩
  · exact UnD.le h ho
  · exact Run.le h (fun _ => ho)
def T_wun : TR := fun Rc Rs av S cs sl K Kx => match av with
  | [.inr (.inr t_o), .inl p] => pa t_o fun t => (∃ (F : Nat → Nat × Nat) (X : Nat → GX) (kz : Nat → Nat) (Q : Ab), (WT S F t X kz Q ∧ ∀ n, n < 4 → EdW (Q.G n) (Q.T n) n (Q.E n)) ∧ cs + (nc_unC Q p.toNatClampNeg + 2) ≤ Rc ∧ sl + (nc_unZ Q p.toNatClampNeg + 12) ≤ Rs ∧ ((∀ (v : Int32) (S' : MM), (∃ (n : Nat) (e : Nat × Nat) (Q1 : Ab) (X1 : Nat → GX), n < 4 ∧ p = nI n ∧ (Q.E n).getLast? = some e ∧ roP (Q.G n) n (cuN (Q.G n) e.1 e.2) ∧ v = nI (cuN (Q.G n) e.1 e.2) ∧ undR Q X n e Q1 X1 ∧ wtQ S S' F t X1 kz Q1) → K (some (.inl v)) S' (cs + (nc_unC Q p.toNatClampNeg + 2)) (sl + (nc_unZ Q p.toNatClampNeg + 12))) ∧ ((np 4 p) → Kx 1 S (cs + (nc_unC Q p.toNatClampNeg + 2)) (sl + (nc_unZ Q p.toNatClampNeg + 12))) ∧ ((∃ n, n < 4 ∧ p = nI n ∧ Q.E n = []) → Kx 2 S (cs + (nc_unC Q p.toNatClampNeg + 2)) (sl + (nc_unZ Q p.toNatClampNeg + 12))) ∧ ((∃ (n : Nat) (e : Nat × Nat), n < 4 ∧ p = nI n ∧ (Q.E n).getLast? = some e ∧ ¬ roP (Q.G n) n (cuN (Q.G n) e.1 e.2)) → Kx 0 S (cs + (nc_unC Q p.toNatClampNeg + 2)) (sl + (nc_unZ Q p.toNatClampNeg + 12)))))
  | _ => False
noncomputable def sp_wun (t : Nat) (p : Int32) (F : Nat → Nat × Nat) (X : Nat → GX) (kz : Nat → Nat) (Q : Ab) : Sp := (fun av S => av = [.inr (.inr (some t)), .inl p] ∧ (WT S F t X kz Q ∧ ∀ n, n < 4 → EdW (Q.G n) (Q.T n) n (Q.E n)), fun _ S => nc_unC Q p.toNatClampNeg + 2, fun _ S => nc_unZ Q p.toNatClampNeg + 12, fun _ S rv S' => ∃ v, rv = (some (.inl v)) ∧ (∃ (n : Nat) (e : Nat × Nat) (Q1 : Ab) (X1 : Nat → GX), n < 4 ∧ p = nI n ∧ (Q.E n).getLast? = some e ∧ roP (Q.G n) n (cuN (Q.G n) e.1 e.2) ∧ v = nI (cuN (Q.G n) e.1 e.2) ∧ undR Q X n e Q1 X1 ∧ wtQ S S' F t X1 kz Q1), fun _ S E S' => (E = 1 ∧ (np 4 p) ∧ S' = S) ∨ (E = 2 ∧ (∃ n, n < 4 ∧ p = nI n ∧ Q.E n = []) ∧ S' = S) ∨ (E = 0 ∧ (∃ (n : Nat) (e : Nat × Nat), n < 4 ∧ p = nI n ∧ (Q.E n).getLast? = some e ∧ ¬ roP (Q.G n) n (cuN (Q.G n) e.1 e.2)) ∧ S' = S))
def tX11_undo : CD := [(0, .aload_n 0), (1, .iload_n 1), (2, .invokevirtual 108), (5, .astore_n 2), (6, .aload_n 2), (7, .invokevirtual 143), (10, .astore_n 3), (11, .aload_n 3), (12, .ifnonnull 11), (15, .new 147), (18, .dup), (19, .invokespecial 149), (22, .athrow), (23, .aload_n 2), (24, .aload_n 3), (25, .invokevirtual 150), (28, .istore 4), (30, .aload_n 2), (31, .iload 4), (33, .invokevirtual 125), (36, .ifCond .ne 11), (39, .new 98), (42, .dup), (43, .invokespecial 100), (46, .athrow), (47, .aload_n 2), (48, .aload_n 3), (49, .invokevirtual 154), (52, .iload 4), (54, .ireturn)]
set_option maxRecDepth 100000 in
theorem kX11_undo : chk cX11_undo tX11_undo = true := by decide +kernel
theorem vX11_undo_108 : ∀ w ∈ ([.methodLink RX11 108 yX11_peerOf, .instanceMethod yX11_peerOf, .selects yX11_peerOf.cls yX11_peerOf yX11_peerOf, .initialized yX11_peerOf.cls, .code yX11_peerOf cX11_peerOf 2 (some (.object "WeaveText$Peer"))] : List Cond), w ∈ lw_good := List.forall_mem_cons.mpr ⟨mgd 827 (by decide +kernel) (by decide +kernel), List.forall_mem_cons.mpr ⟨mgd 829 (by decide +kernel) (by decide +kernel), List.forall_mem_cons.mpr ⟨mgd 1 (by decide +kernel) (by decide +kernel), List.forall_mem_cons.mpr ⟨mgd 121 (by decide +kernel) (by decide +kernel), List.forall_mem_cons.mpr ⟨mgd 830 (by decide +kernel) (by decide +kernel), fun _ h => absurd h List.not_mem_nil⟩⟩⟩⟩⟩
theorem vX11_undo_143 : ∀ w ∈ ([.methodLink RX11 143 yX10_latestEdit, .instanceMethod yX10_latestEdit, .selects yX10_latestEdit.cls yX10_latestEdit yX10_latestEdit, .initialized yX10_latestEdit.cls, .code yX10_latestEdit cX10_latestEdit 1 (some (.object "WeaveText$Edit"))] : List Cond), w ∈ lw_good := List.forall_mem_cons.mpr ⟨mgd 1090 (by decide +kernel) (by decide +kernel), List.forall_mem_cons.mpr ⟨mgd 1091 (by decide +kernel) (by decide +kernel), List.forall_mem_cons.mpr ⟨mgd 1092 (by decide +kernel) (by decide +kernel), List.forall_mem_cons.mpr ⟨mgd 124 (by decide +kernel) (by decide +kernel), List.forall_mem_cons.mpr ⟨mgd 1093 (by decide +kernel) (by decide +kernel), fun _ h => absurd h List.not_mem_nil⟩⟩⟩⟩⟩
theorem vX11_undo_150 : ∀ w ∈ ([.methodLink RX11 150 yX10_costOfUndoing, .instanceMethod yX10_costOfUndoing, .selects yX10_costOfUndoing.cls yX10_costOfUndoing yX10_costOfUndoing, .initialized yX10_costOfUndoing.cls, .code yX10_costOfUndoing cX10_costOfUndoing 5 (some .int)] : List Cond), w ∈ lw_good := List.forall_mem_cons.mpr ⟨mgd 1113 (by decide +kernel) (by decide +kernel), List.forall_mem_cons.mpr ⟨mgd 1114 (by decide +kernel) (by decide +kernel), List.forall_mem_cons.mpr ⟨mgd 1115 (by decide +kernel) (by decide +kernel), List.forall_mem_cons.mpr ⟨mgd 124 (by decide +kernel) (by decide +kernel), List.forall_mem_cons.mpr ⟨mgd 1116 (by decide +kernel) (by decide +kernel), fun _ h => absurd h List.not_mem_nil⟩⟩⟩⟩⟩
theorem vX11_undo_125 : ∀ w ∈ ([.methodLink RX11 125 yX10_hasRoom, .instanceMethod yX10_hasRoom, .selects yX10_hasRoom.cls yX10_hasRoom yX10_hasRoom, .initialized yX10_hasRoom.cls, .code yX10_hasRoom cX10_hasRoom 2 (some .boolean)] : List Cond), w ∈ lw_good := List.forall_mem_cons.mpr ⟨mgd 853 (by decide +kernel) (by decide +kernel), List.forall_mem_cons.mpr ⟨mgd 854 (by decide +kernel) (by decide +kernel), List.forall_mem_cons.mpr ⟨mgd 855 (by decide +kernel) (by decide +kernel), List.forall_mem_cons.mpr ⟨mgd 124 (by decide +kernel) (by decide +kernel), List.forall_mem_cons.mpr ⟨mgd 856 (by decide +kernel) (by decide +kernel), fun _ h => absurd h List.not_mem_nil⟩⟩⟩⟩⟩
theorem vX11_undo_154 : ∀ w ∈ ([.methodLink RX11 154 yX10_revert, .instanceMethod yX10_revert, .selects yX10_revert.cls yX10_revert yX10_revert, .initialized yX10_revert.cls, .code yX10_revert cX10_revert 2 none] : List Cond), w ∈ lw_good := List.forall_mem_cons.mpr ⟨mgd 1119 (by decide +kernel) (by decide +kernel), List.forall_mem_cons.mpr ⟨mgd 1120 (by decide +kernel) (by decide +kernel), List.forall_mem_cons.mpr ⟨mgd 1121 (by decide +kernel) (by decide +kernel), List.forall_mem_cons.mpr ⟨mgd 124 (by decide +kernel) (by decide +kernel), List.forall_mem_cons.mpr ⟨mgd 1122 (by decide +kernel) (by decide +kernel), fun _ h => absurd h List.not_mem_nil⟩⟩⟩⟩⟩
set_option maxRecDepth 100000 in
set_option maxHeartbeats 2000000 in
theorem c_wun (l : Launch) (hlt : l.stackTraces = false) : ∀ (t : Nat) (p : Int32) (F : Nat → Nat × Nat) (X : Nat → GX) (kz : Nat → Nat) (Q : Ab), CtX l yX11_undo (Cond.code yX11_undo cX11_undo 5 (some .int)) (some .int) 11 263 (sp_wun t p F X kz Q) := by
  intro t p F X kz Q
  refine CtX.of hlt (fX11, nX11, aX11, iX11, lX11, [(108, 0, 2, 3, T_wpo), (143, 0, 1, 3, T_ple), (150, 0, 2, 1, T_pcu), (125, 0, 2, 1, T_phr), (154, 0, 2, 0, T_prv)], qX11, gX11, thX11) false tX11_undo (fun _ _ _ => none) (by decide) (by decide) kX11_undo ⟨_, _, rfl⟩ fX11_ok nX11_ok aX11_ok iX11_ok lX11_ok (fun p e R s m args below meth c Q D cy z r A C hR1 hR2 => List.forall_mem_cons.mpr ⟨cOK_use (fun _ _ _ _ _ _ _ _ h => let ⟨sp, h1, h2, h3⟩ := u_wpo l hlt _ _ _ _ _ _ _ _ h; ⟨sp, cOKx_V C h1 vX11_undo_108 ⟨by decide, by decide, by decide +kernel⟩ ⟨by rw [hR1]; decide, by rw [hR2]; decide⟩ (k := 12) (T := TX11) (N := 15) rfl (by decide) h2, h3⟩), List.forall_mem_cons.mpr ⟨cOK_use (fun _ _ _ _ _ _ _ _ h => let ⟨sp, h1, h2, h3⟩ := u_ple l _ _ _ _ _ _ _ _ h; ⟨sp, cOK_V C h1 vX11_undo_143 ⟨by decide, by decide, by decide +kernel⟩ ⟨by rw [hR1]; decide, by rw [hR2]; decide⟩ (k := 11) (T := TX10) (N := 6) rfl (by decide) h2, h3⟩), List.forall_mem_cons.mpr ⟨cOK_use (fun _ _ _ _ _ _ _ _ h => let ⟨sp, h1, h2, h3⟩ := u_pcu l _ _ _ _ _ _ _ _ h; ⟨sp, cOK_V C h1 vX11_undo_150 ⟨by decide, by decide, by decide +kernel⟩ ⟨by rw [hR1]; decide, by rw [hR2]; decide⟩ (k := 11) (T := TX10) (N := 6) rfl (by decide) h2, h3⟩), List.forall_mem_cons.mpr ⟨cOK_use (fun _ _ _ _ _ _ _ _ h => let ⟨sp, h1, h2, h3⟩ := u_phr l _ _ _ _ _ _ _ _ h; ⟨sp, cOK_V C h1 vX11_undo_125 ⟨by decide, by decide, by decide +kernel⟩ ⟨by rw [hR1]; decide, by rw [hR2]; decide⟩ (k := 11) (T := TX10) (N := 6) rfl (by decide) h2, h3⟩), List.forall_mem_cons.mpr ⟨cOK_use (fun _ _ _ _ _ _ _ _ h => let ⟨sp, h1, h2, h3⟩ := u_prv l _ _ _ _ _ _ _ _ h; ⟨sp, cOK_V C h1 vX11_undo_154 ⟨by decide, by decide, by decide +kernel⟩ ⟨by rw [hR1]; decide, by rw [hR2]; decide⟩ (k := 11) (T := TX10) (N := 6) rfl (by decide) h2, h3⟩), fun _ h => absurd h List.not_mem_nil⟩⟩⟩⟩⟩) qX11_ok gX11_ok (fun q hq => ⟨thX11_ok q hq, by decide, by decide⟩) ?_ ?_
  · rintro _ S ⟨rfl, hp⟩
    refine ⟨Nat.le_of_ble_eq_true rfl, 300, ?_⟩
    show (0 = 0 ∧ (∃ (F_1 : Nat → Nat × Nat) (z_2 : Nat → Nat), (SfA S F_1 t z_2) ∧ 0 + 1 ≤ nc_unC Q p.toNatClampNeg + 2 ∧ 0 + 6 ≤ nc_unZ Q p.toNatClampNeg + 12 ∧ ((∀ (x_4 : Option Nat) (S_3 : MM), (S_3 = S ∧ ∃ n, n < 4 ∧ p = nI n ∧ x_4 = some (z_2 (30 + n))) → (0 = 0 ∧ ((pa x_4 fun a_5 => (∃ (a_6 d_7 c_8 : Nat) (n_9 : Nat) (ea_10 : Nat → Nat), (isO S_3 11 a_5 ∧ mR S_3 1102 a_5 = some a_6 ∧ AL S_3 a_6 d_7 c_8 4 ((List.range n_9).map ea_10)) ∧ 0 + 1 ≤ nc_unC Q p.toNatClampNeg + 2 ∧ 0 + 6 ≤ nc_unZ Q p.toNatClampNeg + 12 ∧ (((∀ w_12, (edO n_9 ea_10) = some w_12 → (0 = 0 ∧ ((pa x_4 fun a_13 => ((pa (edO n_9 ea_10) fun a_14 => (∃ (F_15 : Nat → Nat × Nat) (i_16 : Nat) (A_17 : Nat → Nat) (X_18 : GX) (G_19 : Gr) (T_20 : Tr) (H_21 : List Nat) (W_22 : Nat → Nat) (fi_23 sz_24 : Nat), (isO S_3 11 a_13 ∧ mR S_3 1101 a_13 = some (A_17 0) ∧ GI S_3 F_15 i_16 A_17 X_18 G_19 T_20 H_21 W_22 ∧ isO S_3 4 a_14 ∧ mI S_3 400 a_14 = nI fi_23 ∧ mI S_3 401 a_14 = nI sz_24 ∧ fi_23 + sz_24 ≤ G_19.n) ∧ 0 + 1 ≤ nc_unC Q p.toNatClampNeg + 2 ∧ 0 + 6 ≤ nc_unZ Q p.toNatClampNeg + 12 ∧ ((0 = 0 ∧ ((pa x_4 fun a_26 => (∃ (n_27 : Nat), nI (cuN G_19 fi_23 sz_24) = nI n_27 ∧ (∃ (p_28 : Nat) (F_29 : Nat → Nat × Nat) (i_30 : Nat) (A_31 : Nat → Nat) (X_32 : GX) (G_33 : Gr) (T_34 : Tr) (H_35 : List Nat) (W_36 : Nat → Nat), (isO S_3 11 a_26 ∧ mI S_3 1100 a_26 = nI p_28 ∧ mR S_3 1101 a_26 = some (A_31 0) ∧ GI S_3 F_29 i_30 A_31 X_32 G_33 T_34 H_35 W_36 ∧ p_28 < 256 ∧ n_27 ≤ 1000000) ∧ 0 + 1 ≤ nc_unC Q p.toNatClampNeg + 2 ∧ 0 + 6 ≤ nc_unZ Q p.toNatClampNeg + 12 ∧ (((¬ (tf (n_27 = 0 ∨ (G_33.n + n_27 ≤ 8192 ∧ (hasAg G_33 p_28 ∨ G_33.m < 16)))) = 0 → (0 = 0 ∧ ((pa x_4 fun a_38 => ((pa (edO n_9 ea_10) fun a_39 => (∃ (F_40 : Nat → Nat × Nat) (i_41 jo_42 r_43 p_44 s_45 : Nat) (A_46 : Nat → Nat) (X_47 : GX) (G_48 : Gr) (T_49 : Tr) (H_50 : List Nat) (W_51 : Nat → Nat) (a_52 d_53 c_54 : Nat) (E_55 : List (Nat × Nat)) (ea_56 : Nat → Nat) (fi_57 sz_58 : Nat), (rvR S_3 F_40 i_41 jo_42 a_38 r_43 p_44 s_45 A_46 X_47 G_48 T_49 H_50 W_51 a_52 d_53 c_54 E_55 ea_56 a_39 fi_57 sz_58) ∧ 0 + 1 + (runC G_48 s_45 (cuN G_48 fi_57 sz_58)) ≤ nc_unC Q p.toNatClampNeg + 2 ∧ 0 + 6 + (runZ G_48 s_45 (cuN G_48 fi_57 sz_58)) ≤ nc_unZ Q p.toNatClampNeg + 12 ∧ (∀ (S_59 : MM), (rvQ S_3 S_59 F_40 i_41 jo_42 a_38 r_43 p_44 s_45 A_46 X_47 G_48 T_49 a_52 d_53 c_54 E_55 ea_56 fi_57 sz_58) → (([] : List MV) = [] ∧ mret (some .int) (sp_wun t p F X kz Q) [.inr (.inr (some t)), .inl p] S (some (.inl (nI (cuN G_19 fi_23 sz_24)))) S_59 (0 + 1 + (runC G_48 s_45 (cuN G_48 fi_57 sz_58))) (0 + 6 + (runZ G_48 s_45 (cuN G_48 fi_57 sz_58)))))))))))) ∧ ((tf (n_27 = 0 ∨ (G_33.n + n_27 ≤ 8192 ∧ (hasAg G_33 p_28 ∨ G_33.m < 16)))) = 0 → (mthr (sp_wun t p F X kz Q) [.inr (.inr (some t)), .inl p] S 0 S_3 (0 + 1 + 1) (0 + 6 + 6)))))))))))))))))) ∧ ((edO n_9 ea_10) = none → (mthr (sp_wun t p F X kz Q) [.inr (.inr (some t)), .inl p] S 2 S_3 (0 + 1 + 1) (0 + 6 + 6)))))))))) ∧ ((np 4 p) → mthr (sp_wun t p F X kz Q) [.inr (.inr (some t)), .inl p] S 1 S (0 + 1) (0 + 6)))))
    obtain ⟨⟨z, hz⟩, hE⟩ := hp
    refine ⟨rfl, F, z, hz.1.1, by omega, by omega, fun v S3 h => ?_, fun h => ⟨Or.inl ⟨rfl, h, rfl⟩, by show _ ≤ nc_unC Q p.toNatClampNeg + 2; omega, by show _ ≤ nc_unZ Q p.toNatClampNeg + 12; omega⟩⟩
    obtain ⟨rfl, n, hn, hpn, rfl⟩ := h
    have cn : p.toNatClampNeg = n := by rw [hpn]; exact nI_clamp (by omega)
    rw [cn]
    obtain ⟨A, H, W, r, a', d, ea, kn, kr, cu, hP⟩ := hz.2.1 n hn
    have g := hP.gi
    have cst : ∀ a d : Nat, a ≤ nc_unC Q n + 2 → d ≤ nc_unZ Q n + 12 → a ≤ (sp_wun t p F X kz Q).2.1 [.inr (.inr (some t)), .inl p] S3 ∧ d ≤ (sp_wun t p F X kz Q).2.2.1 [.inr (.inr (some t)), .inl p] S3 := fun a d h1 h2 => ⟨by show a ≤ nc_unC Q p.toNatClampNeg + 2; rw [cn]; exact h1, by show d ≤ nc_unZ Q p.toNatClampNeg + 12; rw [cn]; exact h2⟩
    refine ⟨rfl, pa_i rfl ⟨a', d, kz (30 + n), (Q.E n).length, ea, ⟨hP.1.1, hP.2.1, hP.2.2.1.1⟩, by omega, by omega, fun w hw => ?_, fun hw => ⟨Or.inr (Or.inl ⟨rfl, ⟨n, hn, hpn, ?_⟩, rfl⟩), cst _ _ (by omega) (by omega)⟩⟩⟩
    · have hl : (Q.E n).length ≠ 0 := fun e => by unfold edO at hw; rw [if_pos e] at hw; cases hw
      obtain ⟨e, he⟩ : ∃ e, (Q.E n).getLast? = some e := by
        cases e9 : (Q.E n).getLast? with
        | none => rw [List.getLast?_eq_none_iff] at e9; exact absurd (by rw [e9]; rfl) hl
        | some e => exact ⟨e, rfl⟩
      have he2 : (Q.E n)[(Q.E n).length - 1]? = some e := by rw [← List.getLast?_eq_getElem?]; exact he
      have hw2 : edO (Q.E n).length ea = some (ea ((Q.E n).length - 1)) := by unfold edO; rw [if_neg hl]
      have emem : e ∈ Q.E n := List.mem_of_getElem? he2
      obtain ⟨e1, e2, e3, e4⟩ := hE n hn e emem
      have hg : (Q.E n).getD ((Q.E n).length - 1) (0, 0) = e := by rw [List.getD_eq_getElem?_getD, he2]; rfl
      obtain ⟨v1, v2, v3, v4⟩ := hP.2.2.1.2.2.2 ((Q.E n).length - 1) (by omega)
      rw [hg] at v3 v4
      have cu8 := cuN_le (Q.G n) e.1 e.2
      have gn := g.ok.hn
      have eC : nc_unC Q n = nc_if (roP (Q.G n) n (cuN (Q.G n) e.1 e.2)) (runC (Q.G n) (owN (Q.G n) n) (cuN (Q.G n) e.1 e.2)) 0 := by unfold nc_unC; rw [he]
      have eZ : nc_unZ Q n = nc_if (roP (Q.G n) n (cuN (Q.G n) e.1 e.2)) (runZ (Q.G n) (owN (Q.G n) n) (cuN (Q.G n) e.1 e.2)) 0 := by unfold nc_unZ; rw [he]
      rw [hw2]
      refine ⟨rfl, pa_i rfl (pa_i rfl ⟨F, n + 1, A, X n, Q.G n, Q.T n, H, W, e.1, e.2, ⟨hP.1.1, hP.1.2.2.2.1, g, v1, v3, v4, e2⟩, by omega, by omega, rfl, pa_i rfl ⟨cuN (Q.G n) e.1 e.2, rfl, n, F, n + 1, A, X n, Q.G n, Q.T n, H, W, ⟨hP.1.1, hP.1.2.2.1, hP.1.2.2.2.1, g, by omega, by omega⟩, by omega, by omega, fun q0 => ?_, fun q0 => ⟨Or.inr (Or.inr ⟨rfl, ⟨n, e, hn, hpn, he, fun w => ?_⟩, rfl⟩), cst _ _ (by omega) (by omega)⟩⟩⟩)⟩
      · have yr : roP (Q.G n) n (cuN (Q.G n) e.1 e.2) := Classical.byContradiction (fun w => q0 (tf_f w))
        have eC2 := eC.trans (nc_t yr)
        have eZ2 := eZ.trans (nc_t yr)
        have h8 : (Q.G n).n + cuN (Q.G n) e.1 e.2 ≤ 8192 := by
          rcases yr with w | w
          · omega
          · exact w.1
        rw [eC2, eZ2]
        refine ⟨rfl, pa_i rfl (pa_i rfl ⟨F, n + 1, n + 11, r, n, owN (Q.G n) n, A, X n, Q.G n, Q.T n, H, W, a', d, kz (30 + n), Q.E n, ea, e.1, e.2, ⟨hP.1, hP.2.1, hP.2.2.1, by omega, owN_ok (Or.inl e4), by omega, rfl, he2, e1, e2, h8, e3⟩, by omega, by omega, fun S4 h4 => ?_⟩)⟩
        obtain ⟨F', A', X', G', T', H', W', w1, w2, w3, w4, w5, w6, w7, w8⟩ := h4
        have hle : (Q.G n).n ≤ G'.n := UndR.le w6 (owN_ok (Or.inl e4))
        obtain ⟨g1, g2⟩ := hz.wrote hn hP w1 w2 w3 w4 w5 w8 hle
        have ek : upF kz (30 + n) (kz (30 + n)) = kz := by
          funext k
          by_cases c : k = 30 + n
          · rw [c, upF_s]
          · rw [upF_o c]
        rw [ek] at g1
        exact ⟨rfl, trivial, ⟨_, rfl, n, e, _, _, hn, hpn, he, yr, rfl, ⟨G', T', X', w6, rfl, rfl⟩, F', ⟨z, g1⟩, w4, g2⟩, cst _ _ (by rw [eC2]; omega) (by rw [eZ2]; omega)⟩
      · rw [tf_t (show cuN (Q.G n) e.1 e.2 = 0 ∨ _ from w)] at q0; exact absurd q0 (by decide)
    · unfold edO at hw
      by_cases c : (Q.E n).length = 0
      · exact List.eq_nil_of_length_eq_zero c
      · rw [if_neg c] at hw; cases hw
  · exact fun _ _ _ _ _ h => by cases h
theorem u_wun (l : Launch) (hlt : l.stackTraces = false) : UsX l yX11_undo (Cond.code yX11_undo cX11_undo 5 (some .int)) (some .int) 11 263 12 T_wun := by
  intro Rc Rs av S cs sl K Kx h
  unfold T_wun at h
  split at h
  · rename_i t_o p
    obtain ⟨t, rfl, h_1⟩ := pa_of h
    obtain ⟨F, X, kz, Q, hp, hc, hs, hk, hx0, hx1, hx2⟩ := h_1
    refine ⟨(sp_wun t p F X kz Q), c_wun l hlt t p F X kz Q, fun _ _ h9 => ⟨_, _, h9.1, h9.2.1.choose_spec.1.1.1⟩, ⟨rfl, hp⟩, hc, hs, fun v9 S' h8 => by
      obtain ⟨v8, h7, h8⟩ := h8
      cases h7
      exact hk _ _ h8, fun _ _ q => by
      rcases q with ⟨rfl, q⟩ | ⟨rfl, q⟩ | ⟨rfl, q⟩
      · obtain ⟨q, rfl⟩ := q
        exact hx0 q
      · obtain ⟨q, rfl⟩ := q
        exact hx1 q
      · obtain ⟨q, rfl⟩ := q
        exact hx2 q⟩
  · exact h.elim
