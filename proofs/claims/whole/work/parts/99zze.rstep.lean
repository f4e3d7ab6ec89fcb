/-! ===== The reference's add and erase, add and insert are the step that the class makes ===== -/
section PNDS
variable {G : Gr} {s : Nat} {W0 W : Nat → Nat} {pr : List Nat}
theorem pnd_has {k : Nat} (hk : k < G.n) : (pGr G s W0 pr).has W k = G.has W k := by
  unfold Gr.has
  rw [pGr_o hk]
theorem pnd_del (k : Nat) : ∀ N, N ≤ G.n → del (pGr G s W0 pr) W N k = del G W N k
  | 0, _ => rfl
  | N + 1, hN => by
    rw [del, del, pnd_del k N (by omega), pGr_o (show N < G.n by omega), pnd_has (show N < G.n by omega)]
theorem pnd_stV {k : Nat} (hk : k < G.n) (hn : G.n ≤ 8192) : stV (pGr G s W0 pr) W (pGr G s W0 pr).n k = stV G W G.n k := by
  have e : del (pGr G s W0 pr) W (G.n + 1) k = del G W G.n k := by
    rw [del, pnd_del k G.n (Nat.le_refl _), pGr_n]
    have : decide ((pEv G s W0 pr).ch = none ∧ (pEv G s W0 pr).tg = k) = false := decide_eq_false (fun z => by
      have : 8192 = k := z.2
      omega)
    rw [this, Bool.false_and, Bool.or_false]
  show stV (pGr G s W0 pr) W (G.n + 1) k = _
  unfold stV
  rw [pnd_has hk, e]
theorem snW_pnd {x : Nat} (hx : ∃ k, x = k + 1 ∧ k < G.n) (hn : G.n ≤ 8192) : snW (pGr G s W0 pr) W x = snW G W x ∧ ivW (pGr G s W0 pr) W x = ivW G W x := by
  obtain ⟨k, rfl, hk⟩ := hx
  unfold snW ivW
  rw [Nat.add_sub_cancel, pnd_stV hk hn]
  exact ⟨rfl, rfl⟩
end PNDS
theorem find_cg {p q : Nat → Bool} : ∀ {B : List Nat}, (∀ x, x ∈ B → q x = p x) → B.find? q = B.find? p
  | [], _ => rfl
  | b :: B, h => by
    rw [List.find?_cons, List.find?_cons, h b List.mem_cons_self, find_cg (fun x hx => h x (List.mem_cons_of_mem _ hx))]
theorem lstW_cg {lt lt' : Nat → Bool} {sb : Nat → Option Nat} : ∀ (n : Nat) (a p : Option Nat), (∀ c, c ∈ sibW sb n p → lt' c = lt c) → lstW lt' sb n a p = lstW lt sb n a p
  | 0, a, p, _ => by cases p <;> rfl
  | n + 1, a, none, _ => rfl
  | n + 1, a, some y, h => by
    rw [lstW, lstW, h y List.mem_cons_self, lstW_cg n (some y) (sb y) (fun c hc => h c (List.mem_cons_of_mem _ hc))]
theorem Tr.put_lt {T : Tr} {lt lt' : Nat → Bool} {lf e : Nat} {rg : Option Nat} {O : List Nat} (h : lstW lt' T.sb T.od.length none (T.row lf rg) = lstW lt T.sb T.od.length none (T.row lf rg)) : T.put lt' lf rg e O = T.put lt lf rg e O := by
  unfold Tr.put
  rw [h]
theorem Tr.put_pr {T : Tr} {lt : Nat → Bool} {lf e : Nat} {rg : Option Nat} {O : List Nat} {k : Nat} (hk : k ≠ e) : (T.put lt lf rg e O).pr k = T.pr k := by
  cases hx : lstW lt T.sb T.od.length none (T.row lf rg) with
  | some x => rw [Tr.put_s hx]; exact updN_o hk
  | none =>
    cases rg with
    | none => rw [Tr.put_n hx]; exact updN_o hk
    | some r => rw [Tr.put_l hx]; exact updN_o hk
theorem Tr.ins_cg {T T' : Tr} {iv iv' sn sn' lt lt' : Nat → Bool} {e i : Nat} (hT : T.ok) (h : T.ins T' iv sn lt e i) (h1 : ∀ x, x ∈ T.od → iv' x = iv x) (h2 : ∀ x, x ∈ T.od → sn' x = sn x) (h3 : ∀ x, x ∈ T.od → lt' x = lt x) : T.ins T' iv' sn' lt' e i := by
  obtain ⟨A, B, rg, q1, q2, q3, q4, q5, q6⟩ := h
  have mA : ∀ x, x ∈ A → x ∈ T.od := fun x hx => by rw [q1]; exact List.mem_append_left _ hx
  have mB : ∀ x, x ∈ B → x ∈ T.od := fun x hx => by rw [q1]; exact List.mem_append_right _ hx
  have fr : ∀ lf n c, c ∈ sibW T.sb n (T.fr lf) → c ∈ T.od := fun lf n c hc => (hT.2.2.2.2.2.1 lf n c hc).1
  have fl : ∀ lf n c, c ∈ sibW T.sb n (T.fl lf) → c ∈ T.od := fun lf n c hc => (hT.2.2.2.2.2.2 lf n c hc).1
  refine ⟨A, B, rg, q1, ?_, ?_, ?_, ?_, q6⟩
  · rcases last_in (A := A) (rt := 0) with w | w
    · exact Or.inl w.2
    · rcases q2 with q | q
      · exact Or.inl q
      · exact Or.inr (by rw [h2 _ (mA _ w)]; exact q)
  · rw [List.filter_congr (fun x hx => h2 x (mA x hx))]; exact q3
  · rcases q4 with ⟨⟨y, y1, y2⟩, r⟩ | ⟨n, r⟩
    · exact Or.inl ⟨⟨y, y1, by rw [h1 y (fr _ _ y y1)]; exact y2⟩, by rw [find_cg (fun x hx => h1 x (mB x hx))]; exact r⟩
    · exact Or.inr ⟨fun ⟨y, y1, y2⟩ => n ⟨y, y1, by rw [← h1 y (fr _ _ y y1)]; exact y2⟩, r⟩
  · rw [Tr.put_lt (lstW_cg _ _ _ (fun c hc => h3 c ?_))]
    · exact q5
    · cases rg with
      | none => exact fr _ _ c hc
      | some r => exact fl _ _ c hc
section STP
variable {G : Gr} {T T' : Tr} {a ix s c : Nat} {P L : List Nat} {oc : Option Nat}
theorem gt_new (hg : GT G T) : G.n + 1 ∉ T.od := fun w => by
  obtain ⟨k, e, hk, _⟩ := (hg.2.2.2.1 _).1 w
  omega
theorem raP_of (h : EnP G a P oc ix s) (hg : GT G T) (hL : SrtK (eGr G s a) P L P.length) : raP G T a s (G.jn P) L := by
  obtain ⟨e1, e2, e3, e4, e5, e6, e7, e8, e9, e10⟩ := h.ein (tg := 0) hL
  have nin := gt_new hg
  refine ⟨h.2.1, h.1, h.2.2.2.2.2.2.1, ?_, ⟨hg.2.2.1.2.2.2.1 _ nin, hg.2.2.1.2.2.2.2.1 _ nin (Nat.succ_ne_zero _)⟩, ?_⟩
  · have e : pEv (eGr G s a) s (G.jn P) L = (s, G.cn s, G.jn P, L, none, 0, 8192) := by rw [pEv, eGr_cn]
    rw [pGr, e]
    exact EvIn.ok ⟨e1, e2, e3, e4, e5, e6, e7, e8, (fun c z => by cases z), Nat.zero_le _⟩ (h.gok hg.1)
  · refine List.eq_nil_iff_forall_not_mem.2 (fun j hj => ?_)
    obtain ⟨a1, a2, a3⟩ := mem_dls.1 hj
    have := ((hg.2.1 j a1).2 a2).1
    omega
theorem pnd_od (hg : GT G T) (s a : Nat) {x : Nat} (hx : x ∈ T.od) : ∃ k, x = k + 1 ∧ k < (eGr G s a).n := by
  obtain ⟨k, e, hk, _⟩ := (hg.2.2.2.1 x).1 hx
  exact ⟨k, e, by rw [(eGr_n G s a).1]; exact hk⟩
theorem pnd_setD (t : Nat) : (pGr (eGr G s a) s (G.jn P) L).setD G.n ix t = (eGr G s a).push (s, G.cn s, G.jn P, L, none, ix, t) (eGr G s a).m (eGr G s a).ag := by
  have hn := (eGr_n G s a).1
  have hev : ∀ k, ((pGr (eGr G s a) s (G.jn P) L).setD G.n ix t).ev k = ((eGr G s a).push (s, G.cn s, G.jn P, L, none, ix, t) (eGr G s a).m (eGr G s a).ag).ev k := fun k => by
    show _ = if k = (eGr G s a).n then (s, G.cn s, G.jn P, L, none, ix, t) else (eGr G s a).ev k
    by_cases c : k = G.n
    · subst c
      rw [setD_eq, if_pos hn.symm]
      have := pGr_n (G := eGr G s a) (s := s) (W := G.jn P) (pr := L)
      rw [hn] at this
      rw [this, pEv, eGr_cn]
      rfl
    · rw [setD_ne c, if_neg (fun z => c (z.trans hn))]
      exact if_neg (fun z => c (z.trans hn))
  exact congrArg (fun f => ((eGr G s a).n + 1, f, (eGr G s a).m, (eGr G s a).ag)) (funext hev)
theorem pnd_setI : (pGr (eGr G s a) s (G.jn P) L).setI G.n ix c = (eGr G s a).push (s, G.cn s, G.jn P, L, some c, ix, 0) (eGr G s a).m (eGr G s a).ag := by
  have hn := (eGr_n G s a).1
  have hev : ∀ k, ((pGr (eGr G s a) s (G.jn P) L).setI G.n ix c).ev k = ((eGr G s a).push (s, G.cn s, G.jn P, L, some c, ix, 0) (eGr G s a).m (eGr G s a).ag).ev k := fun k => by
    show _ = if k = (eGr G s a).n then (s, G.cn s, G.jn P, L, some c, ix, 0) else (eGr G s a).ev k
    by_cases d : k = G.n
    · subst d
      rw [setI_eq, if_pos hn.symm]
      have := pGr_n (G := eGr G s a) (s := s) (W := G.jn P) (pr := L)
      rw [hn] at this
      rw [this, pEv, eGr_cn]
      rfl
    · rw [setI_ne d, if_neg (fun z => d (z.trans hn))]
      exact if_neg (fun z => d (z.trans hn))
  exact congrArg (fun f => ((eGr G s a).n + 1, f, (eGr G s a).m, (eGr G s a).ag)) (funext hev)
theorem stp_del (h : EnP G a P none ix s) (hg : GT G T) (hL : SrtK (eGr G s a) P L P.length) {j t : Nat} (hj : atP T.od (snW (pGr (eGr G s a) s (G.jn P) L) (G.jn P)) ix j) (ht : T.od.getD j 0 = t + 1) : StpE G T a P none ix s ((pGr (eGr G s a) s (G.jn P) L).setD G.n ix t) T := by
  have hge : GT (eGr G s a) T := OwSl.gt h.2.2.2.2.2.2.1 hg h.2.1
  have hn8 : (eGr G s a).n ≤ 8192 := by rw [(eGr_n G s a).1]; exact hg.1.hn
  have sne : ∀ x, x ∈ T.od → snW (eGr G s a) (G.jn P) x = snW (pGr (eGr G s a) s (G.jn P) L) (G.jn P) x := fun x hx => (snW_pnd (pnd_od hg s a hx) hn8).1.symm
  have hto : t + 1 ∈ T.od := by
    rw [← ht, List.getD_eq_getElem?_getD, List.getElem?_eq_getElem hj.1]
    exact List.getElem_mem hj.1
  refine ⟨(s, G.cn s, G.jn P, L, none, ix, t), rfl, rfl, rfl, hL, rfl, rfl, h.ein hL, pnd_setD t, ?_, Or.inr ⟨rfl, rfl, T.od.take j, T.od.drop (j + 1), ?_, ?_, ?_⟩⟩
  · rw [pnd_setD]
    exact hge.del (h.ein hL) rfl hto
  · show T.od = T.od.take j ++ (t + 1) :: T.od.drop (j + 1)
    rw [← ht]
    have e1 := (List.take_append_drop j T.od).symm
    rw [List.drop_eq_getElem_cons hj.1] at e1
    rw [List.getD_eq_getElem?_getD, List.getElem?_eq_getElem hj.1]
    exact e1
  · show snW (eGr G s a) (G.jn P) (t + 1) = true
    rw [sne _ hto, ← ht]; exact hj.2.1
  · show ((T.od.take j).filter (snW (eGr G s a) (G.jn P))).length = ix
    rw [List.filter_congr (fun x hx => sne x (List.mem_of_mem_take hx))]
    exact hj.2.2
theorem stp_ins (h : EnP G a P (some c) ix s) (hg : GT G T) (hL : SrtK (eGr G s a) P L P.length) {U V : List Nat} (hi : T.ins T' (ivW (pGr (eGr G s a) s (G.jn P) L) (G.jn P)) (snW (pGr (eGr G s a) s (G.jn P) L) (G.jn P)) (lessK (pGr (eGr G s a) s (G.jn P) L) G.n) (G.n + 1) ix) (hU : T.od = U ++ V) (hU' : T'.od = U ++ (G.n + 1) :: V) : StpE G T a P (some c) ix s ((pGr (eGr G s a) s (G.jn P) L).setI G.n ix c) T' := by
  have hge : GT (eGr G s a) T := OwSl.gt h.2.2.2.2.2.2.1 hg h.2.1
  have hn := (eGr_n G s a).1
  have hn8 : (eGr G s a).n ≤ 8192 := by rw [hn]; exact hg.1.hn
  have kk : ∀ k, ((pGr (eGr G s a) s (G.jn P) L).setI G.n ix c).key k = (pGr (eGr G s a) s (G.jn P) L).key k := fun k => by
    unfold Gr.key
    rw [(setI_v k).1, (setI_v k).2.1]
    rfl
  have hi' : T.ins T' (ivW (eGr G s a) (G.jn P)) (snW (eGr G s a) (G.jn P)) (lessK ((pGr (eGr G s a) s (G.jn P) L).setI G.n ix c) G.n) (G.n + 1) ix := Tr.ins_cg hg.2.2.1 hi (fun x hx => (snW_pnd (pnd_od hg s a hx) hn8).2.symm) (fun x hx => (snW_pnd (pnd_od hg s a hx) hn8).1.symm) (fun x _ => by unfold lessK; rw [kk, kk])
  have hpr : ∀ k, k ≠ G.n + 1 → T'.pr k = T.pr k := fun k hk => by
    obtain ⟨A, B, rg, -, -, -, -, q5, -⟩ := hi
    rw [q5]
    exact Tr.put_pr hk
  have he := h.ein (tg := 0) hL
  refine ⟨(s, G.cn s, G.jn P, L, some c, ix, 0), rfl, rfl, rfl, hL, rfl, rfl, he, pnd_setI, ?_, Or.inl ⟨(fun z => by cases z), rfl, hi'⟩⟩
  rw [pnd_setI]
  rw [pnd_setI] at hi'
  refine hge.ins he (fun z => by cases z) ?_ ?_ hU ?_
  · rw [hn]; exact hi'
  · rw [hn]; exact hpr
  · rw [hn]; exact hU'
end STP
