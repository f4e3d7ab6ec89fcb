/-! ===== The reference's graph: writers ===== -/
def rwK (k : Nat) : Prop := (3 ≤ k ∧ k ≤ 25 ∧ k ≠ 17) ∨ (100 ≤ k ∧ k < 116)
/-- the rows' contents as functions -/
def RS (S : MM) (F : Nat → Nat × Nat) (i : Nat) (y : Nat → Nat) (fi : Nat → Int32) (fe : Nat → Nat → Int32) (fz : Nat → Nat) : Prop := (isO S 13 (y 0) ∧ F (y 0) = (i, 1)) ∧ (∀ k, 3 ≤ k → k ≤ 25 → k ≠ 17 → mR S (1300 + k) (y 0) = some (y k) ∧ F (y k) = (i, k) ∧ isO S (rgK k) (y k) ∧ mN S (y k) = rgN k) ∧ (∀ k, mI S (1300 + k) (y 0) = fi k) ∧ (∀ s, s < 16 → eR S (y 5) s = some (y (100 + s)) ∧ isO S 17 (y (100 + s)) ∧ F (y (100 + s)) = (i, 100 + s) ∧ mN S (y (100 + s)) = fz s) ∧ ∀ k, rwK k → eI S (y k) = fe k
/-- what the rows say of a graph and its tree -/
def dlF (f : Nat → Int32) : List Nat → Prop
  | [] => True
  | k :: L => f k = hdI L ∧ dlF f L
def RGm (fi : Nat → Int32) (fe : Nat → Nat → Int32) (fz : Nat → Nat) (G : Gr) (T : Tr) : Nat → Prop
  | 2 => fi 0 = nI G.n ∧ fi 1 = nI G.m ∧ fi 2 = nI T.od.length
  | 3 => ∀ s, s < G.m → fe 3 s = nI (G.ag s) ∧ fe 4 s = nI (G.cn s)
  | 4 => ∀ s, s < 16 → G.cn s ≤ fz s ∧ fz s ≤ 16384 ∧ ∀ j, j < G.cn s → fe (100 + s) j = nI ((evL G s).getD j 0)
  | 5 => ∀ k, k < G.n → fe 6 k = nI (G.ev k).sl ∧ fe 7 k = nI (G.ev k).nu ∧ (∀ s, s < 16 → fe 8 (16 * k + s) = nI ((G.ev k).pa s)) ∧ ((G.ev k).ch ≠ none ∨ (G.ev k).tg < 8192 → fe 10 k = nI (G.ev k).ix)
  | 6 => ∀ k, k < G.n → (∀ c, (G.ev k).ch = some c → fe 9 k = 1 ∧ fe 11 k = nI c) ∧ ((G.ev k).ch = none → (G.ev k).tg < 8192 → fe 9 k = 0 ∧ fe 18 k = nI (G.ev k).tg)
  | 7 => ∀ j, j < T.od.length → fe 21 j = nI (T.od.getD j 0 - 1)
  | 8 => (∀ x, x ∈ T.od → fe 13 (x - 1) = pnI (T.sb x)) ∧ ∀ k, k < G.n → fe 14 k = pnI (T.fl (k + 1)) ∧ fe 15 k = pnI (T.fr (k + 1))
  | 9 => fi 17 = pnI (T.fr 0)
  | 10 => ∀ k, k < G.n → fe 20 k = hdI (dls G k) ∧ dlF (fe 19) (dls G k)
  | 12 => ∀ s, s < 16 → fe 4 s = nI (G.cn s) ∧ fz s = rcp (G.cn s)
  | 11 => G.ok ∧ T.od.Nodup ∧ ∀ x, x ∈ T.od → ∃ k, x = k + 1 ∧ k < G.n ∧ (G.ev k).ch ≠ none
  | _ => True
theorem dlF_C {S : MM} {r : Nat} {f : Nat → Int32} (e : eI S r = f) : ∀ {L : List Nat}, (dlC S r L ↔ dlF f L)
  | [] => Iff.rfl
  | k :: L => by
    show (eI S r k = hdI L ∧ dlC S r L) ↔ (f k = hdI L ∧ dlF f L)
    rw [e, dlF_C e]
section RSS
variable {S S' : MM} {F F' : Nat → Nat × Nat} {i : Nat} {y : Nat → Nat} {G : Gr} {T : Tr} {fi : Nat → Int32} {fe : Nat → Nat → Int32} {fz : Nat → Nat}
theorem RG.rs (h : RG S F i y G T) : RS S F i y (fun k => mI S (1300 + k) (y 0)) (fun k => eI S (y k)) (fun s => mN S (y (100 + s))) := ⟨h 0, h 1, fun _ => rfl, fun s hs => ⟨(h 4 s hs).1, (h 4 s hs).2.1, (h 4 s hs).2.2.1, rfl⟩, fun _ _ => rfl⟩
theorem RG.rm (h : RG S F i y G T) : ∀ j, RGm (fun k => mI S (1300 + k) (y 0)) (fun k => eI S (y k)) (fun s => mN S (y (100 + s))) G T j := by
  intro j
  match j with
  | 0 => trivial
  | 1 => trivial
  | 2 => exact h 2
  | 3 => exact h 3
  | 4 => exact fun s hs => (h 4 s hs).2.2.2
  | 5 => exact h 5
  | 6 => exact h 6
  | 7 => exact h 7
  | 8 => exact h 8
  | 9 => exact h 9
  | 10 => exact fun k hk => ⟨(h 10 k hk).1, (dlF_C rfl).1 (h 10 k hk).2⟩
  | 11 => exact h 11
  | 12 => exact h 12
  | n + 13 => trivial
theorem RS.e (h : RS S F i y fi fe fz) {k : Nat} (hk : rwK k) : eI S (y k) = fe k := h.2.2.2.2 k hk
theorem RS.f (h : RS S F i y fi fe fz) (k : Nat) : mI S (1300 + k) (y 0) = fi k := h.2.2.1 k
theorem RS.rg (h : RS S F i y fi fe fz) (hm : ∀ j, RGm fi fe fz G T j) : RG S F i y G T := by
  have e3 := h.e (k := 3) (Or.inl (by decide))
  have e4 := h.e (k := 4) (Or.inl (by decide))
  have e6 := h.e (k := 6) (Or.inl (by decide))
  have e7 := h.e (k := 7) (Or.inl (by decide))
  have e8 := h.e (k := 8) (Or.inl (by decide))
  have e9 := h.e (k := 9) (Or.inl (by decide))
  have e10 := h.e (k := 10) (Or.inl (by decide))
  have e11 := h.e (k := 11) (Or.inl (by decide))
  have e13 := h.e (k := 13) (Or.inl (by decide))
  have e14 := h.e (k := 14) (Or.inl (by decide))
  have e15 := h.e (k := 15) (Or.inl (by decide))
  have e18 := h.e (k := 18) (Or.inl (by decide))
  have e19 := h.e (k := 19) (Or.inl (by decide))
  have e20 := h.e (k := 20) (Or.inl (by decide))
  have e21 := h.e (k := 21) (Or.inl (by decide))
  have i0 := h.f 0
  have i1 := h.f 1
  have i2 := h.f 2
  have i17 := h.f 17
  intro j
  match j with
  | 0 => exact h.1
  | 1 => exact h.2.1
  | 2 => exact ⟨i0.trans (hm 2).1, i1.trans (hm 2).2.1, i2.trans (hm 2).2.2⟩
  | 3 => exact fun s hs => by rw [e3, e4]; exact hm 3 s hs
  | 4 =>
    intro s hs
    obtain ⟨c1, c2, c3, c4⟩ := h.2.2.2.1 s hs
    obtain ⟨d1, d2, d3⟩ := hm 4 s hs
    exact ⟨c1, c2, c3, by rw [c4]; exact d1, by rw [c4]; exact d2, by rw [h.e (k := 100 + s) (Or.inr (by omega))]; exact d3⟩
  | 5 => exact fun k a => by rw [e6, e7, e8, e10]; exact hm 5 k a
  | 6 => exact fun k a => by rw [e9, e11, e18]; exact hm 6 k a
  | 7 => exact fun k a => by rw [e21]; exact hm 7 k a
  | 8 => exact ⟨fun k a => by rw [e13]; exact (hm 8).1 k a, fun k a => by rw [e14, e15]; exact (hm 8).2 k a⟩
  | 9 => exact i17.trans (hm 9)
  | 10 => exact fun k a => by rw [e20]; exact ⟨(hm 10 k a).1, (dlF_C e19).2 (hm 10 k a).2⟩
  | 11 => exact hm 11
  | 12 =>
    intro s hs
    rw [e4, (h.2.2.2.1 s hs).2.2.2]
    exact hm 12 s hs
  | n + 13 => trivial
theorem RS.role (h : RS S F i y fi fe fz) {k : Nat} (hk : rwK k) : F (y k) = (i, k) := by
  rcases hk with q | q
  · exact (h.2.1 k q.1 q.2.1 q.2.2).2.1
  · have := (h.2.2.2.1 (k - 100) (by omega)).2.2.1
    rw [show 100 + (k - 100) = k by omega] at this
    exact this
theorem RS.own (h : RS S F i y fi fe fz) {k : Nat} (hk : rwK k) : (F (y k)).1 = i := by rw [h.role hk]
theorem RS.ne (h : RS S F i y fi fe fz) {k k' : Nat} (hk : rwK k) (hk' : rwK k') (hn : k ≠ k') : y k ≠ y k' := fun e => hn (by
  have h1 := h.role hk
  rw [e, h.role hk'] at h1
  exact (Prod.mk.inj h1).2.symm)
/-- what changes of a graph touch: its object, its rows up to 21, the rows of its agents -/
def gO (F : Nat → Nat × Nat) (i c : Nat) : Prop := ∃ k, F c = (i, k) ∧ (k = 1 ∨ (3 ≤ k ∧ k ≤ 21) ∨ (100 ≤ k ∧ k < 116))
theorem gO.own {F : Nat → Nat × Nat} {i c : Nat} (h : gO F i c) : (F c).1 = i := by
  obtain ⟨k, h, -⟩ := h
  rw [h]
theorem RS.gown (h : RS S F i y fi fe fz) {k : Nat} (hk : rwK k) (hk' : (3 ≤ k ∧ k ≤ 21) ∨ (100 ≤ k ∧ k < 116)) : gO F i (y k) := ⟨k, h.role hk, Or.inr hk'⟩
theorem RS.gobj (h : RS S F i y fi fe fz) : gO F i (y 0) := ⟨1, h.1.2, Or.inl rfl⟩
def updF (fe : Nat → Nat → Int32) (k : Nat) (f : Nat → Int32) : Nat → Nat → Int32 := fun j => if j = k then f else fe j
theorem RS.ri (h : RS S F i y fi fe fz) {k : Nat} (hk : rwK k) (f : Nat → Int32) : RS (rI S (y k) f) F i y fi (updF fe k f) fz := by
  refine ⟨h.1, h.2.1, h.2.2.1, h.2.2.2.1, fun j hj => ?_⟩
  rw [eI_rI, updF]
  by_cases c : j = k
  · rw [if_pos c, if_pos (by rw [c])]
  · rw [if_neg c, if_neg (h.ne hj hk c)]
    exact h.e hj
theorem RS.r (h : RS S F i y fi fe fz) {k : Nat} (hk : 3 ≤ k ∧ k ≤ 25 ∧ k ≠ 17) : mR S (1300 + k) (y 0) = some (y k) ∧ isO S (rgK k) (y k) ∧ mN S (y k) = rgN k := ⟨(h.2.1 k hk.1 hk.2.1 hk.2.2).1, (h.2.1 k hk.1 hk.2.1 hk.2.2).2.2.1, (h.2.1 k hk.1 hk.2.1 hk.2.2).2.2.2⟩
end RSS
/-- ok speaks only of slots, numbers, pasts and parents -/
theorem Gr.cnt_cg {G G' : Gr} (hv : ∀ k, (G'.ev k).sl = (G.ev k).sl) : ∀ k s, G'.cnt k s = G.cnt k s
  | 0, _ => rfl
  | k + 1, s => by
    show G'.cnt k s + (if (G'.ev k).sl = s then 1 else 0) = G.cnt k s + (if (G.ev k).sl = s then 1 else 0)
    rw [Gr.cnt_cg hv k s, hv k]
theorem Gr.ok_cg {G G' : Gr} (h : G.ok) (hn : G'.n = G.n) (hm : G'.m = G.m) (ha : G'.ag = G.ag) (hv : ∀ k, (G'.ev k).sl = (G.ev k).sl ∧ (G'.ev k).nu = (G.ev k).nu ∧ (G'.ev k).pa = (G.ev k).pa ∧ (G'.ev k).pr = (G.ev k).pr) : G'.ok := by
  have c1 : ∀ k s, G'.cnt k s = G.cnt k s := Gr.cnt_cg (fun k => (hv k).1)
  have c2 : ∀ e f, G'.bef e f = G.bef e f := fun e f => by
    unfold Gr.bef Gr.has
    rw [(hv e).1, (hv e).2.1, (hv f).2.2.1]
  have c3 : ∀ k s, G'.full k s = G.full k s := fun k s => by
    unfold Gr.full
    rw [(hv k).1, (hv k).2.1, (hv k).2.2.1]
  have c4 : ∀ k, G'.key k = G.key k := fun k => by
    unfold Gr.key
    rw [(hv k).1, (hv k).2.1, ha]
  obtain ⟨a1, a2, a3, a4, a5, a6, a7, a8, a9, a10, a11, a12, a13, a14⟩ := h
  refine ⟨by rw [hn]; exact a1, by rw [hm]; exact a2, by rw [hm, ha]; exact a3, by rw [hm, ha]; exact a4, a5, ?_, ?_, ?_, ?_, ?_, ?_, ?_, ?_, ?_⟩
  · intro k hk; rw [hn] at hk; rw [(hv k).1, hm]; exact a6 k hk
  · intro k hk; rw [hn] at hk; rw [(hv k).1, (hv k).2.1, c1]; exact a7 k hk
  · intro k hk; rw [hn] at hk; rw [(hv k).1, (hv k).2.1, (hv k).2.2.1]; exact a8 k hk
  · intro k s hk; rw [hn] at hk; rw [(hv k).2.2.1, c1]; exact a9 k s hk
  · intro k j hk hb hj t; rw [hn] at hk hj; rw [c2] at hb; rw [(hv k).2.2.1, c3]; exact a10 k j hk hb hj t
  · intro k hk p hp; rw [hn] at hk; rw [(hv k).2.2.2] at hp; rw [c2]; exact a11 k hk p hp
  · intro k hk j hj hb
    rw [hn] at hk hj; rw [c2] at hb
    obtain ⟨p, p1, p2⟩ := a12 k hk j hj hb
    exact ⟨p, by rw [(hv k).2.2.2]; exact p1, by rw [c2]; exact p2⟩
  · intro k hk p q hp hq; rw [hn] at hk; rw [(hv k).2.2.2] at hp hq; rw [c2]; exact a13 k hk p q hp hq
  · intro k hk; rw [hn] at hk; rw [(hv k).2.2.2]
    exact (a14 k hk).imp (fun {p q} z => by rw [c4, c4]; exact z)
/-- an event becomes one that deletes a node -/
def Gr.setD (G : Gr) (e ix t : Nat) : Gr := (G.n, fun k => if k = e then ((G.ev e).sl, (G.ev e).nu, (G.ev e).pa, (G.ev e).pr, none, ix, t) else G.ev k, G.m, G.ag)
theorem RS.wr {S : MM} {F : Nat → Nat × Nat} {i : Nat} {y : Nat → Nat} {fi : Nat → Int32} {fe : Nat → Nat → Int32} {fz : Nat → Nat} (h : RS S F i y fi fe fz) {k n : Nat} (hk : rwK k) {x : Int32} (hx : x.toNatClampNeg = n) (v : Int32) : RS (rI S (y k) (upd (eI S (y k)) x.toNatClampNeg v)) F i y fi (updF fe k (upd (fe k) n v)) fz := by
  rw [h.e hk, hx]; exact h.ri hk _
section SETD
variable {G : Gr} {e ix t : Nat}
theorem setD_ne {k : Nat} (h : k ≠ e) : (G.setD e ix t).ev k = G.ev k := by
  show (if k = e then _ else G.ev k) = _
  rw [if_neg h]
theorem setD_eq : (G.setD e ix t).ev e = ((G.ev e).sl, (G.ev e).nu, (G.ev e).pa, (G.ev e).pr, none, ix, t) := by
  show (if e = e then _ else G.ev e) = _
  rw [if_pos rfl]
theorem setD_v (k : Nat) : ((G.setD e ix t).ev k).sl = (G.ev k).sl ∧ ((G.setD e ix t).ev k).nu = (G.ev k).nu ∧ ((G.setD e ix t).ev k).pa = (G.ev k).pa ∧ ((G.setD e ix t).ev k).pr = (G.ev k).pr := by
  by_cases c : k = e
  · subst c; rw [setD_eq]; exact ⟨rfl, rfl, rfl, rfl⟩
  · rw [setD_ne c]; exact ⟨rfl, rfl, rfl, rfl⟩
theorem setD_cn (s : Nat) : (G.setD e ix t).cn s = G.cn s := Gr.cnt_cg (fun k => (setD_v k).1) G.n s
theorem setD_evL (s : Nat) : evL (G.setD e ix t) s = evL G s := by
  unfold evL
  exact List.filter_congr (fun k _ => by rw [(setD_v k).1])
theorem dls_set (he : e + 1 = G.n) (hc : (G.ev e).ch = none) (ht : (G.ev e).tg = 8192) {k : Nat} (hk : k < 8192) : dls (G.setD e ix t) k = (if k = t then [e] else []) ++ dls G k := by
  unfold dls
  show (List.filter _ (List.range G.n)).reverse = _
  rw [← he, List.range_succ, List.filter_append, List.filter_append, List.reverse_append, List.reverse_append]
  have h1 : (List.range e).filter (fun j => decide (((G.setD e ix t).ev j).ch = none ∧ ((G.setD e ix t).ev j).tg = k)) = (List.range e).filter (fun j => decide ((G.ev j).ch = none ∧ (G.ev j).tg = k)) := List.filter_congr (fun j hj => by
    rw [setD_ne (Nat.ne_of_lt (List.mem_range.1 hj))])
  have h2 : [e].filter (fun j => decide ((G.ev j).ch = none ∧ (G.ev j).tg = k)) = [] := by
    rw [List.filter_cons_of_neg]
    · rfl
    · rw [decide_eq_true_eq, ht]; omega
  have h3 : [e].filter (fun j => decide (((G.setD e ix t).ev j).ch = none ∧ ((G.setD e ix t).ev j).tg = k)) = if k = t then [e] else [] := by
    by_cases c : k = t
    · rw [if_pos c, List.filter_cons_of_pos]
      · rfl
      · rw [decide_eq_true_eq, setD_eq]; exact ⟨rfl, c.symm⟩
    · rw [if_neg c, List.filter_cons_of_neg]
      · rfl
      · rw [decide_eq_true_eq, setD_eq]; exact fun z => c z.2.symm
  rw [h1, h2, h3]
  by_cases c : k = t
  · rw [if_pos c]; rfl
  · rw [if_neg c]; rfl
theorem dlF_cg {f f' : Nat → Int32} : ∀ {L : List Nat}, (∀ j, j ∈ L → f' j = f j) → dlF f L → dlF f' L
  | [], _, _ => trivial
  | k :: L, h, q => ⟨(h k List.mem_cons_self).trans q.1, dlF_cg (fun j hj => h j (List.mem_cons_of_mem _ hj)) q.2⟩
theorem RGm.setD {T : Tr} {fi : Nat → Int32} {fe fe' : Nat → Nat → Int32} {fz : Nat → Nat} (hm : ∀ j, RGm fi fe fz G T j) (he : e + 1 = G.n) (hc : (G.ev e).ch = none) (htg : (G.ev e).tg = 8192) (ht : t < G.n) (q : ∀ k, k ≠ 9 → k ≠ 10 → k ≠ 18 → k ≠ 19 → k ≠ 20 → fe' k = fe k) (q9 : fe' 9 = upd (fe 9) e 0) (q10 : fe' 10 = upd (fe 10) e (nI ix)) (q18 : fe' 18 = upd (fe 18) e (nI t)) (q19 : fe' 19 = upd (fe 19) e (hdI (dls G t))) (q20 : fe' 20 = upd (fe 20) t (nI e)) : ∀ j, RGm fi fe' fz (G.setD e ix t) T j := by
  have hn : G.n ≤ 8192 := (hm 11).1.hn
  have e3 : fe' 3 = fe 3 := q 3 (by decide) (by decide) (by decide) (by decide) (by decide)
  have e4 : fe' 4 = fe 4 := q 4 (by decide) (by decide) (by decide) (by decide) (by decide)
  have e6 : fe' 6 = fe 6 := q 6 (by decide) (by decide) (by decide) (by decide) (by decide)
  have e7 : fe' 7 = fe 7 := q 7 (by decide) (by decide) (by decide) (by decide) (by decide)
  have e8 : fe' 8 = fe 8 := q 8 (by decide) (by decide) (by decide) (by decide) (by decide)
  have e11 : fe' 11 = fe 11 := q 11 (by decide) (by decide) (by decide) (by decide) (by decide)
  have e13 : fe' 13 = fe 13 := q 13 (by decide) (by decide) (by decide) (by decide) (by decide)
  have e14 : fe' 14 = fe 14 := q 14 (by decide) (by decide) (by decide) (by decide) (by decide)
  have e15 : fe' 15 = fe 15 := q 15 (by decide) (by decide) (by decide) (by decide) (by decide)
  have e21 : fe' 21 = fe 21 := q 21 (by decide) (by decide) (by decide) (by decide) (by decide)
  intro j
  match j with
  | 0 => trivial
  | 1 => trivial
  | 2 => exact hm 2
  | 3 =>
    intro s hs
    rw [e3, e4, setD_cn]
    exact hm 3 s hs
  | 4 =>
    intro s hs
    rw [setD_cn, setD_evL, q (100 + s) (by omega) (by omega) (by omega) (by omega) (by omega)]
    exact hm 4 s hs
  | 5 =>
    intro k hk
    rw [(setD_v k).1, (setD_v k).2.1, (setD_v k).2.2.1, e6, e7, e8, q10]
    obtain ⟨d1, d2, d3, d4⟩ := hm 5 k hk
    refine ⟨d1, d2, d3, fun z => ?_⟩
    rw [upd]
    by_cases c : k = e
    · subst c; rw [if_pos rfl, setD_eq]; rfl
    · rw [if_neg c, setD_ne c]
      rw [setD_ne c] at z
      exact d4 z
  | 6 =>
    intro k hk
    obtain ⟨d1, d2⟩ := hm 6 k hk
    rw [q9, q18, e11, upd, upd]
    by_cases c : k = e
    · subst c
      rw [if_pos rfl, if_pos rfl, setD_eq]
      exact ⟨fun c z => (by cases z), fun _ _ => ⟨rfl, rfl⟩⟩
    · rw [if_neg c, if_neg c, setD_ne c]
      exact ⟨d1, d2⟩
  | 7 =>
    intro k hk
    rw [e21]; exact hm 7 k hk
  | 8 =>
    refine ⟨fun k a => ?_, fun k a => ?_⟩
    · rw [e13]; exact (hm 8).1 k a
    · rw [e14, e15]; exact (hm 8).2 k a
  | 9 => exact hm 9
  | 10 =>
    intro k hk
    have hk : k < G.n := hk
    obtain ⟨d1, d2⟩ := hm 10 k hk
    have hne : ∀ j, j ∈ dls G k → upd (fe 19) e (hdI (dls G t)) j = fe 19 j := fun j hj => by
      rw [upd, if_neg]
      intro c
      have := (mem_dls.1 hj).2.2
      rw [c, htg] at this
      omega
    rw [dls_set he hc htg (by omega), q19, q20, upd]
    by_cases c : k = t
    · subst c
      rw [if_pos rfl, if_pos rfl]
      exact ⟨rfl, by show upd (fe 19) e _ e = _; rw [upd, if_pos rfl]; rfl, dlF_cg hne d2⟩
    · rw [if_neg c, if_neg c]
      exact ⟨d1, dlF_cg hne d2⟩
  | 11 =>
    obtain ⟨d1, d2, d3⟩ := hm 11
    refine ⟨Gr.ok_cg d1 rfl rfl rfl setD_v, d2, fun x hx => ?_⟩
    obtain ⟨k, a, b, c⟩ := d3 x hx
    refine ⟨k, a, b, ?_⟩
    rw [setD_ne (fun z => c (by rw [z]; exact hc))]
    exact c
  | 12 =>
    intro s hs
    rw [e4, setD_cn]
    exact hm 12 s hs
  | n + 13 => trivial
end SETD
def I_er1 (g e ix : Nat) (F : Nat → Nat × Nat) (G : Gr) (T : Tr) (S : MM) (k : Nat) : KT := fun lo st S1 cs sl => ∃ j t, k = 2 ∧ atP T.od (snW G (G.ev e).pa) ix j ∧ T.od.getD j 0 = t + 1 ∧ lo = [(0, .inr (.inr (some g))), (1, .inl (nI e)), (2, .inl (nI ix)), (3, .inl (nI t))] ∧ st = [] ∧ S = S1 ∧ cs = 0 ∧ sl = 0
def I_er2 (g e ix : Nat) (F : Nat → Nat × Nat) (i : Nat) (y : Nat → Nat) (G : Gr) (T : Tr) (S : MM) (k : Nat) : KT := fun lo st S1 cs sl => ∃ j t, k = 1 ∧ atP T.od (snW G (G.ev e).pa) ix j ∧ T.od.getD j 0 = t + 1 ∧ RS S1 F i y (fun k => mI S (1300 + k) (y 0)) (updF (updF (fun k => eI S (y k)) 10 (upd (eI S (y 10)) e (nI ix))) 9 (upd (eI S (y 9)) e 0)) (fun s => mN S (y (100 + s))) ∧ Keep (gO F i) S S1 ∧ lo = [(0, .inr (.inr (some g))), (1, .inl (nI e)), (3, .inl (nI t))] ∧ st = [] ∧ cs = 0 ∧ sl = 0
def T_rer : TR := fun Rc Rs av S cs sl K _Kx => match av with
  | [.inr (.inr g_o), .inl e_v, .inl ix_v] => pa g_o fun g => (∃ (e : Nat), e_v = nI e ∧ (∃ (ix : Nat), ix_v = nI ix ∧ (∃ (F : Nat → Nat × Nat) (i : Nat) (y : Nat → Nat) (G : Gr) (T : Tr), (g = y 0 ∧ RG S F i y G T ∧ e + 1 = G.n ∧ (G.ev e).ch = none ∧ (G.ev e).tg = 8192 ∧ ix < (T.od.filter (snW G (G.ev e).pa)).length) ∧ cs ≤ Rc ∧ sl ≤ Rs ∧ (∀ (S' : MM), (∃ j t, atP T.od (snW G (G.ev e).pa) ix j ∧ T.od.getD j 0 = t + 1 ∧ RG S' F i y (G.setD e ix t) T ∧ Keep (gO F i) S S' ∧ mI S' 1326 (y 0) = mI S 1326 (y 0)) → K none S' cs sl))))
  | _ => False
def sp_rer (g : Nat) (e : Nat) (ix : Nat) (F : Nat → Nat × Nat) (i : Nat) (y : Nat → Nat) (G : Gr) (T : Tr) : Sp := (fun av S => av = [.inr (.inr (some g)), .inl (nI e), .inl (nI ix)] ∧ (g = y 0 ∧ RG S F i y G T ∧ e + 1 = G.n ∧ (G.ev e).ch = none ∧ (G.ev e).tg = 8192 ∧ ix < (T.od.filter (snW G (G.ev e).pa)).length), fun _ S => 0, fun _ S => 0, fun _ S rv S' => rv = none ∧ (∃ j t, atP T.od (snW G (G.ev e).pa) ix j ∧ T.od.getD j 0 = t + 1 ∧ RG S' F i y (G.setD e ix t) T ∧ Keep (gO F i) S S' ∧ mI S' 1326 (y 0) = mI S 1326 (y 0)), fun _ _ _ _ => False)
def tX12_erase : CD := [(0, .aload_n 0), (1, .getfield 72), (4, .aload_n 0), (5, .aload_n 0), (6, .getfield 30), (9, .bipush 16), (11, .iload_n 1), (12, .imul), (13, .iload_n 2), (14, .invokevirtual 117), (17, .iaload), (18, .istore_n 3), (19, .aload_n 0), (20, .getfield 38), (23, .iload_n 1), (24, .iload_n 2), (25, .iastore), (26, .aload_n 0), (27, .getfield 34), (30, .iload_n 1), (31, .iconst 0), (32, .bastore), (33, .aload_n 0), (34, .getfield 63), (37, .iload_n 1), (38, .iload_n 3), (39, .iastore), (40, .aload_n 0), (41, .getfield 66), (44, .iload_n 1), (45, .aload_n 0), (46, .getfield 69), (49, .iload_n 3), (50, .iaload), (51, .iastore), (52, .aload_n 0), (53, .getfield 69), (56, .iload_n 3), (57, .iload_n 1), (58, .iastore), (59, .return_)]
set_option maxRecDepth 100000 in
theorem kX12_erase : chk cX12_erase tX12_erase = true := by decide +kernel
theorem vX12_erase_117 : ∀ w ∈ ([.methodLink RX12 117 yX12_seenAt, .instanceMethod yX12_seenAt, .selects yX12_seenAt.cls yX12_seenAt yX12_seenAt, .initialized yX12_seenAt.cls, .code yX12_seenAt cX12_seenAt 6 (some .int)] : List Cond), w ∈ lw_good := List.forall_mem_cons.mpr ⟨mgd 2001 (by decide +kernel) (by decide +kernel), List.forall_mem_cons.mpr ⟨mgd 2002 (by decide +kernel) (by decide +kernel), List.forall_mem_cons.mpr ⟨mgd 2003 (by decide +kernel) (by decide +kernel), List.forall_mem_cons.mpr ⟨mgd 138 (by decide +kernel) (by decide +kernel), List.forall_mem_cons.mpr ⟨mgd 2004 (by decide +kernel) (by decide +kernel), fun _ h => absurd h List.not_mem_nil⟩⟩⟩⟩⟩
set_option maxRecDepth 100000 in
set_option maxHeartbeats 2000000 in
theorem c_rer (l : Launch) : ∀ (g : Nat) (e : Nat) (ix : Nat) (F : Nat → Nat × Nat) (i : Nat) (y : Nat → Nat) (G : Gr) (T : Tr), Ct l yX12_erase cX12_erase 4 none 3 72 (sp_rer g e ix F i y G T) := by
  intro g e ix F i y G T
  refine Ct.of (fX12, nX12, aX12, iX12, lX12, [(117, 0, 4, 1, T_rsa)], qX12, gX12, []) false tX12_erase (fun _ S => look [(19, ([0,1,2,3], I_er1 g e ix F G T S)), (33, ([0,1,3], I_er2 g e ix F i y G T S))]) (by decide) (by decide) kX12_erase ⟨_, _, rfl⟩ fX12_ok nX12_ok aX12_ok iX12_ok lX12_ok (fun p e R s m args below meth c Q D cy z r A C hR1 hR2 => List.forall_mem_cons.mpr ⟨cOK_use (fun _ _ _ _ _ _ _ _ h => let ⟨sp, h1, h2, h3⟩ := u_rsa l _ _ _ _ _ _ _ _ h; ⟨sp, cOK_V C h1 vX12_erase_117 ⟨by decide, by decide, by decide +kernel⟩ ⟨by rw [hR1]; decide, by rw [hR2]; decide⟩ (k := 13) (T := TX12) (N := 27) rfl (by decide) h2, h3⟩), fun _ h => absurd h List.not_mem_nil⟩) qX12_ok gX12_ok rfl ?_ ?_
  · rintro _ S ⟨rfl, hp⟩
    refine ⟨Nat.le_of_ble_eq_true rfl, 300, ?_⟩
    show (isO S 13 g ∧ (isO S 13 g ∧ (0 = 0 ∧ ((pa (mR S 1308 g) fun a_1 => (∃ (o_2 : Nat), (16 : Int32) * (nI e) = nI o_2 ∧ (∃ (ix_3 : Nat), nI ix = nI ix_3 ∧ (∃ (F_4 : Nat → Nat × Nat) (i_5 : Nat) (y_6 : Nat → Nat) (G_7 : Gr) (T_8 : Tr) (W_9 : Nat → Nat), (g = y_6 0 ∧ RG S F_4 i_5 y_6 G_7 T_8 ∧ StR S a_1 o_2 W_9 ∧ ix_3 < (T_8.od.filter (snW G_7 W_9)).length) ∧ 0 ≤ 0 ∧ 0 ≤ 0 ∧ (∀ (x_11 : Int32), (∃ j, atP T_8.od (snW G_7 W_9) ix_3 j ∧ x_11 = nI j) → (pa (mR S 1321 g) fun a_12 => ∃ v_13 : Int32, (isO S 17 a_12 ∧ inR S a_12 x_11 ∧ v_13 = eI S a_12 x_11.toNatClampNeg ∨ a_12 = (mQ S).1 ∧ vp_in x_11 16 ∧ v_13 = mRem x_11.toNatClampNeg) ∧ (∃ k1, I_er1 g e ix F G T S k1 [(0, .inr (.inr (some g))), (1, .inl (nI e)), (2, .inl (nI ix)), (3, .inl v_13)] [] S 0 0)))))))))))
    obtain ⟨rfl, h, he, hc, htg, hix⟩ := hp
    have hnm := h.nm
    refine ⟨(h 0).1, (h 0).1, rfl, pa_i h.r8.1 ⟨16 * e, nI_mul16, ix, rfl, F, i, y, G, T, (G.ev e).pa, ⟨rfl, h, ⟨h.r8.2.1, by rw [h.r8.2.2]; omega, by rw [h.r8.2.2]; exact Nat.le_refl _, fun s hs => ⟨(h 5 e (by omega)).2.2.1 s hs, pa_le h.ok (by omega) s⟩⟩, hix⟩, Nat.le_refl _, Nat.le_refl _, fun x hx => ?_⟩⟩
    obtain ⟨j, hj, rfl⟩ := hx
    obtain ⟨t, ht, -⟩ := h.odn hj.1
    exact h.g21 hj.1 ⟨2, j, t, rfl, hj, ht, by rw [ht]; rfl, rfl, rfl, rfl, rfl⟩
  · intro av S hpre pc I hI k lo st S1 cs sl h
    obtain ⟨rfl, hp⟩ := hpre
    have hm := look_in hI
    simp only [List.mem_cons, List.not_mem_nil, or_false] at hm
    rcases hm with hm | hm
    · cases hm
      obtain ⟨j, t, rfl, hj, ht, rfl, rfl, rfl, rfl, rfl⟩ := h
      refine ⟨300, ?_⟩
      show (isO S 13 g ∧ (pa (mR S 1310 g) fun a_1 => isO S 17 a_1 ∧ inR S a_1 (nI e) ∧ (isO (rI S a_1 (upd (eI S a_1) (nI e).toNatClampNeg (nI ix))) 13 g ∧ (pa (mR (rI S a_1 (upd (eI S a_1) (nI e).toNatClampNeg (nI ix))) 1309 g) fun a_2 => ((isO (rI S a_1 (upd (eI S a_1) (nI e).toNatClampNeg (nI ix))) 16 a_2 ∧ inR (rI S a_1 (upd (eI S a_1) (nI e).toNatClampNeg (nI ix))) a_2 (nI e) ∧ (∃ k1, k1 < 2 ∧ I_er2 g e ix F i y G T S k1 [(0, .inr (.inr (some g))), (1, .inl (nI e)), (3, .inl (nI t))] [] (rI (rI S a_1 (upd (eI S a_1) (nI e).toNatClampNeg (nI ix))) a_2 (upd (eI (rI S a_1 (upd (eI S a_1) (nI e).toNatClampNeg (nI ix))) a_2) (nI e).toNatClampNeg ((0 : Int32).toInt8.toInt32))) 0 0)) ∨ (isO (rI S a_1 (upd (eI S a_1) (nI e).toNatClampNeg (nI ix))) 20 a_2 ∧ inR (rI S a_1 (upd (eI S a_1) (nI e).toNatClampNeg (nI ix))) a_2 (nI e) ∧ (∃ k1, k1 < 2 ∧ I_er2 g e ix F i y G T S k1 [(0, .inr (.inr (some g))), (1, .inl (nI e)), (3, .inl (nI t))] [] (rI (rI S a_1 (upd (eI S a_1) (nI e).toNatClampNeg (nI ix))) a_2 (upd (eI (rI S a_1 (upd (eI S a_1) (nI e).toNatClampNeg (nI ix))) a_2) (nI e).toNatClampNeg (vp_nar .boolean (0 : Int32)))) 0 0)))))))
      obtain ⟨rfl, h, he, hc, htg, hix⟩ := hp
      have hnm := h.nm
      have h0 := h.rs
      have cl : (nI e).toNatClampNeg = e := nI_clamp (by omega)
      exact ⟨(h 0).1, pa_i h.r10.1 ⟨h.r10.2.1, inRn h.r10.2.2 (by omega) (by decide), (h 0).1, pa_i h.r9.1 (Or.inr ⟨h.r9.2.1, inRn h.r9.2.2 (by omega) (by decide), 1, by decide, j, t, rfl, hj, ht, (h0.wr (k := 10) (Or.inl (by decide)) cl (nI ix)).wr (k := 9) (Or.inl (by decide)) cl _, Keep.rI (P := gO F i) (Keep.rI (P := gO F i) Keep.rf (h0.gown (k := 10) (Or.inl (by decide)) (Or.inl (by decide)))) (h0.gown (k := 9) (Or.inl (by decide)) (Or.inl (by decide))), rfl, rfl, rfl, rfl⟩)⟩⟩
    · cases hm
      obtain ⟨j, t, rfl, hj, ht, hR, hK, rfl, rfl, rfl, rfl⟩ := h
      refine ⟨300, ?_⟩
      show (isO S1 13 g ∧ (pa (mR S1 1318 g) fun a_1 => isO S1 17 a_1 ∧ inR S1 a_1 (nI e) ∧ (isO (rI S1 a_1 (upd (eI S1 a_1) (nI e).toNatClampNeg (nI t))) 13 g ∧ (isO (rI S1 a_1 (upd (eI S1 a_1) (nI e).toNatClampNeg (nI t))) 13 g ∧ (pa (mR (rI S1 a_1 (upd (eI S1 a_1) (nI e).toNatClampNeg (nI t))) 1320 g) fun a_2 => ∃ v_3 : Int32, (isO (rI S1 a_1 (upd (eI S1 a_1) (nI e).toNatClampNeg (nI t))) 17 a_2 ∧ inR (rI S1 a_1 (upd (eI S1 a_1) (nI e).toNatClampNeg (nI t))) a_2 (nI t) ∧ v_3 = eI (rI S1 a_1 (upd (eI S1 a_1) (nI e).toNatClampNeg (nI t))) a_2 (nI t).toNatClampNeg ∨ a_2 = (mQ (rI S1 a_1 (upd (eI S1 a_1) (nI e).toNatClampNeg (nI t)))).1 ∧ vp_in (nI t) 16 ∧ v_3 = mRem (nI t).toNatClampNeg) ∧ (pa (mR (rI S1 a_1 (upd (eI S1 a_1) (nI e).toNatClampNeg (nI t))) 1319 g) fun a_4 => isO (rI S1 a_1 (upd (eI S1 a_1) (nI e).toNatClampNeg (nI t))) 17 a_4 ∧ inR (rI S1 a_1 (upd (eI S1 a_1) (nI e).toNatClampNeg (nI t))) a_4 (nI e) ∧ (isO (rI (rI S1 a_1 (upd (eI S1 a_1) (nI e).toNatClampNeg (nI t))) a_4 (upd (eI (rI S1 a_1 (upd (eI S1 a_1) (nI e).toNatClampNeg (nI t))) a_4) (nI e).toNatClampNeg v_3)) 13 g ∧ (pa (mR (rI (rI S1 a_1 (upd (eI S1 a_1) (nI e).toNatClampNeg (nI t))) a_4 (upd (eI (rI S1 a_1 (upd (eI S1 a_1) (nI e).toNatClampNeg (nI t))) a_4) (nI e).toNatClampNeg v_3)) 1320 g) fun a_5 => isO (rI (rI S1 a_1 (upd (eI S1 a_1) (nI e).toNatClampNeg (nI t))) a_4 (upd (eI (rI S1 a_1 (upd (eI S1 a_1) (nI e).toNatClampNeg (nI t))) a_4) (nI e).toNatClampNeg v_3)) 17 a_5 ∧ inR (rI (rI S1 a_1 (upd (eI S1 a_1) (nI e).toNatClampNeg (nI t))) a_4 (upd (eI (rI S1 a_1 (upd (eI S1 a_1) (nI e).toNatClampNeg (nI t))) a_4) (nI e).toNatClampNeg v_3)) a_5 (nI t) ∧ (([] : List MV) = [] ∧ mret none (sp_rer g e ix F i y G T) [.inr (.inr (some g)), .inl (nI e), .inl (nI ix)] S none (rI (rI (rI S1 a_1 (upd (eI S1 a_1) (nI e).toNatClampNeg (nI t))) a_4 (upd (eI (rI S1 a_1 (upd (eI S1 a_1) (nI e).toNatClampNeg (nI t))) a_4) (nI e).toNatClampNeg v_3)) a_5 (upd (eI (rI (rI S1 a_1 (upd (eI S1 a_1) (nI e).toNatClampNeg (nI t))) a_4 (upd (eI (rI S1 a_1 (upd (eI S1 a_1) (nI e).toNatClampNeg (nI t))) a_4) (nI e).toNatClampNeg v_3)) a_5) (nI t).toNatClampNeg (nI e))) 0 0)))))))))
      obtain ⟨rfl, h, he, hc, htg, hix⟩ := hp
      have hnm := h.nm
      have ht1 : t < G.n := by
        obtain ⟨t1, a, b, -⟩ := h.odn hj.1
        omega
      have ce : (nI e).toNatClampNeg = e := nI_clamp (by omega)
      have ct : (nI t).toNatClampNeg = t := nI_clamp (by omega)
      have w18 : rwK 18 := Or.inl (by decide)
      have w19 : rwK 19 := Or.inl (by decide)
      have w20 : rwK 20 := Or.inl (by decide)
      have h1 := hR.wr w18 ce (nI t)
      have h2 := h1.wr w19 ce (hdI (dls G t))
      have h3 := h2.wr w20 ct (nI e)
      have r18 := hR.r (k := 18) (by decide)
      have r19 := hR.r (k := 19) (by decide)
      have r20 := hR.r (k := 20) (by decide)
      refine ⟨hR.1.1, pa_i r18.1 ⟨r18.2.1, inRn r18.2.2 (show e < 8192 by omega) (by decide), hR.1.1, hR.1.1, pa_i r20.1 ⟨hdI (dls G t), Or.inl ⟨r20.2.1, inRn r20.2.2 (show t < 8192 by omega) (by decide), ?_⟩, pa_i r19.1 ⟨r19.2.1, inRn r19.2.2 (show e < 8192 by omega) (by decide), hR.1.1, pa_i r20.1 ⟨r20.2.1, inRn r20.2.2 (show t < 8192 by omega) (by decide), rfl, trivial, ⟨rfl, j, t, hj, ht, h3.rg (RGm.setD h.rm he hc htg ht1 (fun k a b c d f => ?_) rfl rfl rfl rfl rfl), ?_, h3.f 26⟩, Nat.le_refl _, Nat.le_refl _⟩⟩⟩⟩⟩
      · have h9 := h1.e w20
        rw [h9, ct]
        exact (h 10 t ht1).1.symm
      · unfold updF
        rw [if_neg f, if_neg d, if_neg c, if_neg a, if_neg b]
      · exact Keep.rI (P := gO F i) (Keep.rI (P := gO F i) (Keep.rI (P := gO F i) hK (hR.gown w18 (Or.inl (by decide)))) (hR.gown w19 (Or.inl (by decide)))) (hR.gown w20 (Or.inl (by decide)))
theorem u_rer (l : Launch) : Us l yX12_erase cX12_erase 4 none 3 72 13 T_rer := by
  intro Rc Rs av S cs sl K Kx h
  unfold T_rer at h
  split at h
  · rename_i g_o e_v ix_v
    obtain ⟨g, rfl, h_1⟩ := pa_of h
    obtain ⟨e, rfl, h_2⟩ := h_1
    obtain ⟨ix, rfl, h_3⟩ := h_2
    obtain ⟨F, i, y, G, T, hp, hc, hs, hk⟩ := h_3
    refine ⟨(sp_rer g e ix F i y G T), c_rer l g e ix F i y G T, fun _ _ h9 => ⟨_, _, h9.1, (h9.2.1 ▸ (h9.2.2.1 0).1)⟩, ⟨rfl, hp⟩, hc, hs, fun S' h8 => by
      obtain ⟨-, h8⟩ := h8
      exact hk _ h8, fun _ _ q => q.elim⟩
  · exact h.elim
