/-! ===== The reference's graph: what insert writes, as mathematics ===== -/
section RGMT
variable {G : Gr} {T T' : Tr} {fi fi' : Nat → Int32} {fe fe' : Nat → Nat → Int32} {fz : Nat → Nat} {e : Nat}
theorem RGm.off (hm : ∀ j, RGm fi fe fz G T j) (he : (G.ev e).ch = none) (ht : (G.ev e).tg = 8192) (q : ∀ k, k ≠ 9 → k ≠ 10 → k ≠ 11 → k ≠ 12 → k ≠ 16 → fe' k = fe k) (q9 : ∀ j, j ≠ e → fe' 9 j = fe 9 j) (q10 : ∀ j, j ≠ e → fe' 10 j = fe 10 j) (q11 : ∀ j, j ≠ e → fe' 11 j = fe 11 j) : ∀ j, RGm fi fe' fz G T j := by
  have ee : ∀ k, (k = 3 ∨ k = 4 ∨ k = 6 ∨ k = 7 ∨ k = 8 ∨ k = 13 ∨ k = 14 ∨ k = 15 ∨ k = 18 ∨ k = 19 ∨ k = 20 ∨ k = 21 ∨ 100 ≤ k) → fe' k = fe k := fun k hk => q k (by omega) (by omega) (by omega) (by omega) (by omega)
  intro j
  match j with
  | 0 => trivial
  | 1 => trivial
  | 2 => exact hm 2
  | 3 => intro s hs; rw [ee 3 (by decide), ee 4 (by decide)]; exact hm 3 s hs
  | 4 => intro s hs; rw [ee (100 + s) (by omega)]; exact hm 4 s hs
  | 5 =>
    intro k hk
    rw [ee 6 (by decide), ee 7 (by decide), ee 8 (by decide)]
    obtain ⟨d1, d2, d3, d4⟩ := hm 5 k hk
    refine ⟨d1, d2, d3, fun z => ?_⟩
    by_cases c : k = e
    · subst c
      rcases z with z | z
      · exact absurd he z
      · omega
    · rw [q10 k c]; exact d4 z
  | 6 =>
    intro k hk
    obtain ⟨d1, d2⟩ := hm 6 k hk
    rw [ee 18 (by decide)]
    by_cases c : k = e
    · subst c
      exact ⟨fun c z => (by rw [he] at z; cases z), fun _ z => by omega⟩
    · rw [q9 k c, q11 k c]; exact ⟨d1, d2⟩
  | 7 => intro k hk; rw [ee 21 (by decide)]; exact hm 7 k hk
  | 8 => rw [RGm, ee 13 (by decide), ee 14 (by decide), ee 15 (by decide)]; exact hm 8
  | 9 => exact hm 9
  | 10 => intro k hk; rw [ee 19 (by decide), ee 20 (by decide)]; exact hm 10 k hk
  | 11 => exact hm 11
  | 12 => intro s hs; rw [ee 4 (by decide)]; exact hm 12 s hs
  | n + 13 => trivial
theorem RGm.tree (hm : ∀ j, RGm fi fe fz G T j) (ho : T'.od = T.od) (c17 : fi' 17 = pnI (T'.fr 0)) (ck : ∀ k, k ≠ 17 → fi' k = fi k) (q13 : ∀ x, x ∈ T.od → fe' 13 (x - 1) = pnI (T'.sb x)) (q14 : ∀ k, k < G.n → fe' 14 k = pnI (T'.fl (k + 1)) ∧ fe' 15 k = pnI (T'.fr (k + 1))) (q : ∀ k, k ≠ 13 → k ≠ 14 → k ≠ 15 → fe' k = fe k) : ∀ j, RGm fi' fe' fz G T' j := by
  have ee : ∀ k, (k = 3 ∨ k = 4 ∨ k = 6 ∨ k = 7 ∨ k = 8 ∨ k = 9 ∨ k = 10 ∨ k = 11 ∨ k = 18 ∨ k = 19 ∨ k = 20 ∨ k = 21 ∨ 100 ≤ k) → fe' k = fe k := fun k hk => q k (by omega) (by omega) (by omega)
  intro j
  match j with
  | 0 => trivial
  | 1 => trivial
  | 2 => exact ⟨(ck 0 (by decide)).trans (hm 2).1, (ck 1 (by decide)).trans (hm 2).2.1, by rw [ho]; exact (ck 2 (by decide)).trans (hm 2).2.2⟩
  | 3 => intro s hs; rw [ee 3 (by decide), ee 4 (by decide)]; exact hm 3 s hs
  | 4 => intro s hs; rw [ee (100 + s) (by omega)]; exact hm 4 s hs
  | 5 => intro k hk; rw [ee 6 (by decide), ee 7 (by decide), ee 8 (by decide), ee 10 (by decide)]; exact hm 5 k hk
  | 6 => intro k hk; rw [ee 9 (by decide), ee 11 (by decide), ee 18 (by decide)]; exact hm 6 k hk
  | 7 => rw [RGm, ho]; intro k hk; rw [ee 21 (by decide)]; exact hm 7 k hk
  | 8 => exact ⟨fun x hx => q13 x (by rw [ho] at hx; exact hx), q14⟩
  | 9 => exact c17
  | 10 => intro k hk; rw [ee 19 (by decide), ee 20 (by decide)]; exact hm 10 k hk
  | 11 => rw [RGm, ho]; exact hm 11
  | 12 => intro s hs; rw [ee 4 (by decide)]; exact hm 12 s hs
  | n + 13 => trivial
end RGMT
/-- an event becomes one that inserts a character -/
def Gr.setI (G : Gr) (e ix c : Nat) : Gr := (G.n, fun k => if k = e then ((G.ev e).sl, (G.ev e).nu, (G.ev e).pa, (G.ev e).pr, some c, ix, 0) else G.ev k, G.m, G.ag)
section SETI
variable {G : Gr} {e ix c : Nat}
theorem setI_ne {k : Nat} (h : k ≠ e) : (G.setI e ix c).ev k = G.ev k := by
  show (if k = e then _ else G.ev k) = _
  rw [if_neg h]
theorem setI_eq : (G.setI e ix c).ev e = ((G.ev e).sl, (G.ev e).nu, (G.ev e).pa, (G.ev e).pr, some c, ix, 0) := by
  show (if e = e then _ else G.ev e) = _
  rw [if_pos rfl]
theorem setI_v (k : Nat) : ((G.setI e ix c).ev k).sl = (G.ev k).sl ∧ ((G.setI e ix c).ev k).nu = (G.ev k).nu ∧ ((G.setI e ix c).ev k).pa = (G.ev k).pa ∧ ((G.setI e ix c).ev k).pr = (G.ev k).pr := by
  by_cases c : k = e
  · subst c; rw [setI_eq]; exact ⟨rfl, rfl, rfl, rfl⟩
  · rw [setI_ne c]; exact ⟨rfl, rfl, rfl, rfl⟩
theorem setI_cn (s : Nat) : (G.setI e ix c).cn s = G.cn s := Gr.cnt_cg (fun k => (setI_v k).1) G.n s
theorem setI_evL (s : Nat) : evL (G.setI e ix c) s = evL G s := by
  unfold evL
  exact List.filter_congr (fun k _ => by rw [(setI_v k).1])
theorem dls_setI (ht : (G.ev e).tg = 8192) {k : Nat} (hk : k < 8192) : dls (G.setI e ix c) k = dls G k := by
  unfold dls
  show (List.filter _ (List.range G.n)).reverse = _
  congr 1
  refine List.filter_congr (fun j _ => ?_)
  by_cases w : j = e
  · subst w
    rw [setI_eq, ht]
    have : ¬ (8192 = k) := by omega
    simp [this, Ev.ch, Ev.tg]
  · rw [setI_ne w]
theorem RGm.setI {T T' : Tr} {U V : List Nat} {fi fi' : Nat → Int32} {fe fe' : Nat → Nat → Int32} {fz : Nat → Nat} (hm : ∀ j, RGm fi fe fz G T j) (he : e < G.n) (hc : (G.ev e).ch = none) (htg : (G.ev e).tg = 8192)
    (hU : T.od = U ++ V) (hU' : T'.od = U ++ (e + 1) :: V) (hE : e + 1 ∉ T.od) (hp : T'.fl = T.fl ∧ T'.fr = T.fr ∧ T'.sb = T.sb)
    (c2 : fi' 2 = nI (T.od.length + 1)) (ck : ∀ k, k ≠ 2 → fi' k = fi k)
    (q9 : fe' 9 e = 1) (q10 : fe' 10 e = nI ix) (q11 : fe' 11 e = nI c) (q13 : fe' 13 e = pnI (T'.sb (e + 1)))
    (q21 : ∀ j, j < T.od.length + 1 → fe' 21 j = nI (T'.od.getD j 0 - 1)) (q : ∀ k, k ≠ 21 → fe' k = fe k) : ∀ j, RGm fi' fe' fz (G.setI e ix c) T' j := by
  have hn : G.n ≤ 8192 := (hm 11).1.hn
  have ee : ∀ k, (k = 3 ∨ k = 4 ∨ k = 6 ∨ k = 7 ∨ k = 8 ∨ k = 9 ∨ k = 10 ∨ k = 11 ∨ k = 13 ∨ k = 14 ∨ k = 15 ∨ k = 18 ∨ k = 19 ∨ k = 20 ∨ 100 ≤ k) → fe' k = fe k := fun k hk => q k (by omega)
  have hlen : T'.od.length = T.od.length + 1 := by rw [hU, hU', List.length_append, List.length_append, List.length_cons]; omega
  have hmem : ∀ x, x ∈ T'.od → x = e + 1 ∨ x ∈ T.od := fun x hx => by
    rw [hU'] at hx; rw [hU]
    rcases List.mem_append.1 hx with z | z
    · exact Or.inr (List.mem_append_left _ z)
    · rcases List.mem_cons.1 z with z | z
      · exact Or.inl z
      · exact Or.inr (List.mem_append_right _ z)
  intro j
  match j with
  | 0 => trivial
  | 1 => trivial
  | 2 => exact ⟨(ck 0 (by decide)).trans (hm 2).1, (ck 1 (by decide)).trans (hm 2).2.1, by rw [hlen]; exact c2⟩
  | 3 => intro s hs; rw [ee 3 (by decide), ee 4 (by decide), setI_cn]; exact hm 3 s hs
  | 4 => intro s hs; rw [ee (100 + s) (by omega), setI_cn, setI_evL]; exact hm 4 s hs
  | 5 =>
    intro k hk
    rw [(setI_v k).1, (setI_v k).2.1, (setI_v k).2.2.1]
    obtain ⟨d1, d2, d3, d4⟩ := hm 5 k hk
    refine ⟨by rw [ee 6 (by decide)]; exact d1, by rw [ee 7 (by decide)]; exact d2, by rw [ee 8 (by decide)]; exact d3, fun z => ?_⟩
    by_cases w : k = e
    · subst w; rw [setI_eq]; exact q10
    · rw [setI_ne w] at z ⊢
      rw [ee 10 (by decide)]; exact d4 z
  | 6 =>
    intro k hk
    obtain ⟨d1, d2⟩ := hm 6 k hk
    by_cases w : k = e
    · subst w
      rw [setI_eq]
      refine ⟨fun c' z => ?_, fun z => (by cases z)⟩
      have z : some c = some c' := z
      cases z
      exact ⟨q9, q11⟩
    · rw [setI_ne w, ee 9 (by decide), ee 11 (by decide), ee 18 (by decide)]
      exact ⟨d1, d2⟩
  | 7 =>
    intro k hk
    exact q21 k (by omega)
  | 8 =>
    refine ⟨fun x hx => ?_, fun k hk => ?_⟩
    · rcases hmem x hx with w | w
      · rw [w]; exact q13
      · rw [ee 13 (by decide), hp.2.2]; exact (hm 8).1 x w
    · rw [ee 14 (by decide), ee 15 (by decide), hp.1, hp.2.1]; exact (hm 8).2 k hk
  | 9 => rw [RGm, ck 17 (by decide), hp.2.1]; exact hm 9
  | 10 =>
    intro k hk
    have hk : k < G.n := hk
    rw [dls_setI htg (by omega), ee 19 (by decide), ee 20 (by decide)]
    exact hm 10 k hk
  | 11 =>
    obtain ⟨d1, d2, d3⟩ := hm 11
    refine ⟨Gr.ok_cg d1 rfl rfl rfl setI_v, ?_, fun x hx => ?_⟩
    · rw [hU] at d2 hE
      rw [hU']
      simp only [List.nodup_append, List.nodup_cons, List.mem_append, List.mem_cons, not_or] at d2 hE ⊢
      refine ⟨d2.1, ⟨hE.2, d2.2.1⟩, fun a ha b hb => ?_⟩
      rcases hb with hb | hb
      · exact fun w => hE.1 (hb ▸ w ▸ ha)
      · exact d2.2.2 a ha b hb
    · rcases hmem x hx with w | w
      · refine ⟨e, w, he, ?_⟩
        rw [setI_eq]; exact fun z => (by cases z)
      · obtain ⟨k, a, b, d⟩ := d3 x w
        refine ⟨k, a, b, ?_⟩
        rw [setI_ne (fun z => hE (by rw [← z, ← a]; exact w))]
        exact d
  | 12 => intro s hs; rw [ee 4 (by decide), setI_cn]; exact hm 12 s hs
  | n + 13 => trivial
end SETI
