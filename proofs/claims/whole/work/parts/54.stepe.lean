/-! ===== Graph.enter ===== -/
theorem Gr.jn_mem {G : Gr} {P L : List Nat} (h : ∀ x, x ∈ L ↔ x ∈ P) : G.jn L = G.jn P := by
  funext t
  exact Nat.le_antisymm (Gr.jn_le (fun p hp => Gr.full_le_jn ((h p).1 hp) t)) (Gr.jn_le (fun p hp => Gr.full_le_jn ((h p).2 hp) t))
theorem Gr.agn_jn (G : Gr) (a : Nat) : ∀ P, (G.agn a).jn P = G.jn P
  | [] => rfl
  | p :: P => by
    funext t
    rw [Gr.jn, Gr.jn, Gr.agn_jn G a P]; rfl
/-- the graph with the agent's slot -/
def eGr (G : Gr) (s a : Nat) : Gr := if s < G.m then G else G.agn a
/-- what an event of an agent a, with parents P, must be -/
def EnP (G : Gr) (a : Nat) (P : List Nat) (oc : Option Nat) (ix s : Nat) : Prop := G.n < 8192 ∧ a < 256 ∧ P.length ≤ 16 ∧ P.Nodup ∧ (∀ p, p ∈ P → p < G.n) ∧ (∀ p q, p ∈ P → q ∈ P → G.bef p q = false) ∧ ((s < G.m ∧ G.ag s = a) ∨ (s = G.m ∧ G.m < 16 ∧ ∀ t, t < G.m → G.ag t ≠ a)) ∧ G.jn P s = G.cn s ∧ (∀ c, oc = some c → c < 2000000 ∧ ix ≤ c1 G (G.jn P) G.n) ∧ (oc = none → ix < c1 G (G.jn P) G.n)
/-- an event comes into a graph -/
def StpE (G : Gr) (T : Tr) (a : Nat) (P : List Nat) (oc : Option Nat) (ix s : Nat) (G' : Gr) (T' : Tr) : Prop := ∃ e : Ev, e.sl = s ∧ e.nu = G.cn s ∧ e.pa = G.jn P ∧ SrtK (eGr G s a) P e.pr P.length ∧ e.ch = oc ∧ e.ix = ix ∧ EvIn (eGr G s a) e ∧ G' = (eGr G s a).push e (eGr G s a).m (eGr G s a).ag ∧ GT G' T' ∧ ((oc ≠ none ∧ e.tg = 0 ∧ T.ins T' (ivW (eGr G s a) e.pa) (snW (eGr G s a) e.pa) (lessK G' G.n) (G.n + 1) ix) ∨ (oc = none ∧ T' = T ∧ DelT (eGr G s a) T e))
theorem eGr_n (G : Gr) (s a : Nat) : (eGr G s a).n = G.n ∧ (eGr G s a).ev = G.ev := by
  unfold eGr
  split
  · exact ⟨rfl, rfl⟩
  · exact ⟨rfl, rfl⟩
theorem eGr_jn (G : Gr) (s a : Nat) (P : List Nat) : (eGr G s a).jn P = G.jn P := by
  unfold eGr
  split
  · rfl
  · exact Gr.agn_jn G a P
theorem eGr_cn (G : Gr) (s a : Nat) : (eGr G s a).cn = G.cn := by
  unfold eGr
  split
  · rfl
  · funext t; exact Gr.agn_cnt G a G.n t
theorem eGr_c1 (G : Gr) (s a : Nat) (W : Nat → Nat) (N : Nat) : c1 (eGr G s a) W N = c1 G W N := by
  unfold eGr
  split
  · rfl
  · exact Gr.agn_c1 G a W N
theorem eGr_bef (G : Gr) (s a p q : Nat) : (eGr G s a).bef p q = G.bef p q := by
  unfold eGr
  split
  · rfl
  · rfl
theorem EnP.sl {G : Gr} {a : Nat} {P : List Nat} {oc : Option Nat} {ix s : Nat} (h : EnP G a P oc ix s) : s < (eGr G s a).m ∧ (eGr G s a).ag s = a := by
  unfold eGr
  rcases h.2.2.2.2.2.2.1 with q | q
  · rw [if_pos q.1]; exact q
  · rw [if_neg (by omega), q.1]
    exact ⟨Nat.lt_succ_self _, updN_s⟩
theorem EnP.ein {G : Gr} {a : Nat} {P L : List Nat} {oc : Option Nat} {ix s tg : Nat} (h : EnP G a P oc ix s) (hL : SrtK (eGr G s a) P L P.length) : EvIn (eGr G s a) (s, G.cn s, G.jn P, L, oc, ix, tg) := by
  obtain ⟨h1, h2, h3, h4, h5, h6, h7, h8, h9, h10⟩ := id h
  obtain ⟨l1, l2, l3⟩ := hL
  rw [List.take_length] at l2
  obtain ⟨e1, e2⟩ := eGr_n G s a
  have c0 := c1_le G (G.jn P) G.n
  refine ⟨by rw [e1]; exact h1, h.sl.1, by rw [eGr_cn]; rfl, fun p hp => by rw [e1]; exact h5 p ((l2 p).1 hp), fun p q hp hq => by rw [eGr_bef]; exact h6 p q ((l2 p).1 hp) ((l2 q).1 hq), l3, ?_, h8, fun c q => (h9 c q).1, ?_⟩
  · show G.jn P = _
    rw [eGr_jn]
    exact (Gr.jn_mem l2).symm
  · show ix ≤ 8192
    cases q : oc with
    | none => have := h10 q; omega
    | some c => have := (h9 c q).2; omega
theorem HdS.len {G : Gr} {H : List Nat} (hd : HdS G H) (h : G.ok) : H.length ≤ G.m := by
  have nd : (H.map (fun k => (G.ev k).sl)).Nodup := by
    refine List.pairwise_map.2 (List.Pairwise.imp_of_mem (fun {x y} hx hy hlt e => ?_) hd.2)
    have hx' := (hd.1 x).1 hx
    have hy' := (hd.1 y).1 hy
    have b1 := hx'.2 y hy'.1
    have b2 := hy'.2 x hx'.1
    rw [Gr.bef_same h hx'.1 hy'.1 e, decide_eq_false_iff_not] at b1
    rw [Gr.bef_same h hy'.1 hx'.1 e.symm, decide_eq_false_iff_not] at b2
    have : x = y := by omega
    subst this
    omega
  have e1 : (H.map (fun k => (G.ev k).sl)).length = ((List.range G.m).filter (fun t => decide (t ∈ H.map (fun k => (G.ev k).sl)))).length := by
    refine nodup_len nd (List.nodup_range.filter _) (fun t => ?_)
    rw [List.mem_filter, List.mem_range, decide_eq_true_eq]
    refine ⟨fun q => ⟨?_, q⟩, fun q => q.2⟩
    obtain ⟨k, k1, rfl⟩ := List.mem_map.1 q
    exact h.sl1 k ((hd.1 k).1 k1).1
  rw [List.length_map] at e1
  rw [e1]
  have := List.length_filter_le (fun t => decide (t ∈ H.map (fun k => (G.ev k).sl))) (List.range G.m)
  rw [List.length_range] at this
  exact this
def enC (G : Gr) (s : Nat) : Nat := 4 + (if s < G.m then 0 else 2) + alC (capF G.n) G.n + alC (capF (G.cn s)) (G.cn s)
def enZ (G : Gr) (s : Nat) : Nat := 70 + (if s < G.m then 0 else 6) + alZ (capF G.n) G.n + alZ (capF (G.cn s)) (G.cn s)
/-- the ranks of events stay -/
def KRk (S S' : MM) : Prop := ∀ b, isO S 5 b → mI S' 515 b = mI S 515 b
theorem KRk.tr {P : Nat → Prop} {S S1 S2 : MM} (h1 : KRk S S1) (hk : Keep P S S1) (h2 : KRk S1 S2) : KRk S S2 := fun b hb => (h2 b (hk.isO hb)).trans (h1 b hb)
theorem KRk.of {P : Nat → Prop} {S S' : MM} (hk : Keep P S S') (h : ∀ b, isO S 5 b → ¬ P b) : KRk S S' := fun b hb => (hk.2.1 b hb.1 (h b hb)).1 515
theorem KRk.ap {S S' : MM} {a d c kk : Nat} {L : List Nat} (h : AL S a d c kk L) (hk : Keep (AP S a d c) S S') : KRk S S' := KRk.of hk (fun b hb q => by
  rcases q with q | ⟨-, -, q⟩
  · exact isO_ne hb h.1 (by decide) q
  · rw [hb.2] at q
    exact absurd q (by decide))
theorem KRk.sk {S : MM} {g e y i : Nat} : KRk S (skS2 S g e y i) := by
  intro b hb
  have h1 : mI (skS S g e y i) 515 b = mI S 515 b := by
    unfold skS fgS
    rw [mI_sI, if_neg (fun z => absurd z.1 (by decide)), mI_sI, if_neg (fun z => absurd z.1 (by decide)), mI_sI, if_neg (fun z => absurd z.1 (by decide)), mI_sR, mI_sI, if_neg (fun z => absurd z.1 (by decide)), mI_sR]
  unfold skS2
  split
  · rw [mI_sI, if_neg (fun z => absurd z.1 (by decide)), mI_sI, if_neg (fun z => absurd z.1 (by decide)), h1]
  · exact h1
theorem KRk.hg {S S' : MM} {g rt e i n : Nat} {O : List Nat} (h : hgP S S' g rt e i n O) : KRk S S' := by
  obtain ⟨S1, lf, rg, T, a1, -, a3, rfl⟩ := h
  intro b hb
  have h1 : mI T = mI S1 := by
    rcases a3 with ⟨x, D, -, -, -, -, rfl⟩ | ⟨-, -, rfl⟩ | ⟨r, D, p, -, -, -, -, -, -, rfl⟩ <;> rw [mI_sR, mI_sR, lkS_I]
  unfold hgF
  rw [mI_sI, if_neg (fun z => absurd z.1 (by decide)), mI_sR, mI_sI, if_neg (fun z => absurd z.1 (by decide)), mI_sI, if_neg (fun z => absurd z.1 (by decide)), mI_sI, if_neg (fun z => absurd z.1 (by decide)), h1]
  exact a1.ag.2.2 515 b (by decide)
theorem KRk.sa {S S' : MM} {X : GX} {G : Gr} {g rt sh wa : Nat} {W0 : Nat → Nat} {H : List Nat} (h : saP S S' X G g rt sh wa W0 H) : KRk S S' := by
  obtain ⟨f, -, hs⟩ := h
  rcases hs with ⟨-, rfl⟩ | ⟨-, f2, -, μ, rfl, hF, -⟩
  · exact fun _ _ => rfl
  · intro b hb
    exact hF 515 b (fun z => absurd z.1 (by decide)) (fun z => z.2.elim (fun w => absurd w (by decide)) (fun w => absurd w (by decide)))
theorem KRk.ag {S : MM} {g ar q q2 m a : Nat} (hq : q ∉ mL S) (hq2 : q2 ∉ mL (nO S q 1)) : KRk S (agM S g ar q q2 m a) := by
  have k4 : Keep (fun b => b = q ∨ b = q2) S (agS (nO S q 1) q q2 (nI a) (nI m)) := by
    unfold agS
    exact Keep.sI (Keep.sI (Keep.sR (Keep.sR (Keep.sI ((Keep.rf.nO hq).nO hq2) (Or.inr rfl)) (Or.inr rfl)) (Or.inl rfl)) (Or.inl rfl)) (Or.inl rfl)
  have k5 := KRk.of k4 (fun b hb z => z.elim (fun e => hq (e ▸ hb.1)) (fun e => hq2 (List.mem_append_left _ (e ▸ hb.1))))
  intro b hb
  unfold agM
  rw [mI_sI, if_neg (fun z => absurd z.1 (by decide)), mI_rR]
  exact k5 b hb
def enQ (S S' : MM) (F : Nat → Nat × Nat) (i : Nat) (A : Nat → Nat) (X : GX) (G : Gr) (T : Tr) (a : Nat) (P : List Nat) (oc : Option Nat) (ix s : Nat) : Prop := ∃ F' A' X' G' T' H' W', GI S' F' i A' X' G' T' H' W' ∧ FO S' F' ∧ (∀ b, b ∈ mL S → F' b = F b) ∧ Keep (fun b => (F b).1 = i) S S' ∧ StpE G T a P oc ix s G' T' ∧ (∀ j, j < 20 → j ≠ 3 → j ≠ 6 → j ≠ 7 → A' j = A j) ∧ (∀ k, k < G.n → X'.ad k = X.ad k) ∧ KRk S S'
def enR (S : MM) (F : Nat → Nat × Nat) (i : Nat) (A : Nat → Nat) (X : GX) (G : Gr) (T : Tr) (H : List Nat) (W : Nat → Nat) (r : Nat) (P : List Nat) (a : Nat) (oc : Option Nat) (ix s : Nat) : Prop := GI S F i A X G T H W ∧ FO S F ∧ i ≠ 0 ∧ RwE S X G r P ∧ (F r).1 ≠ i ∧ W = G.jn P ∧ EnP G a P oc ix s
