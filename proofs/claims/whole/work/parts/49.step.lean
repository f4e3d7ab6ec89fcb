/-! ===== An event comes in, as mathematics ===== -/
section PUSH
variable {G : Gr} {e : Ev} {m : Nat} {ag : Nat → Nat} {W : Nat → Nat}
theorem Gr.push_n : (G.push e m ag).n = G.n + 1 := rfl
theorem Gr.nu_cn (h : G.ok) {k : Nat} (hk : k < G.n) : (G.ev k).nu < G.cn (G.ev k).sl := by
  rw [h.nu1 k hk]
  exact Gr.cnt_lt hk
theorem Gr.push_has (h : G.ok) (h7 : e.nu = G.cn e.sl) (hW : W e.sl = e.nu) {k : Nat} (hk : k < G.n) : (G.push e m ag).has (updN W e.sl (e.nu + 1)) k = G.has W k := by
  have := Gr.nu_cn h hk
  rw [Gr.has, Gr.has, Gr.push_old hk]
  by_cases q : (G.ev k).sl = e.sl
  · rw [q, updN_s, hW]
    rw [q] at this
    rw [decide_eq_true (show (G.ev k).nu < e.nu + 1 by omega), decide_eq_true (show (G.ev k).nu < e.nu by omega)]
  · rw [updN_o q]
theorem Gr.push_hasn : (G.push e m ag).has (updN W e.sl (e.nu + 1)) G.n = true := by
  rw [Gr.has, Gr.push_new, updN_s]
  exact decide_eq_true (Nat.lt_succ_self _)
theorem Gr.push_del (h : G.ok) (h7 : e.nu = G.cn e.sl) (hW : W e.sl = e.nu) (k : Nat) : ∀ N, N ≤ G.n → del (G.push e m ag) (updN W e.sl (e.nu + 1)) N k = del G W N k
  | 0, _ => rfl
  | N + 1, hN => by
    rw [del, del, Gr.push_del h h7 hW k N (by omega), Gr.push_old (show N < G.n by omega), Gr.push_has h h7 hW (show N < G.n by omega)]
theorem Gr.push_deln (h : G.ok) (h7 : e.nu = G.cn e.sl) (hW : W e.sl = e.nu) (k : Nat) : del (G.push e m ag) (updN W e.sl (e.nu + 1)) (G.n + 1) k = (del G W G.n k || decide (e.ch = none ∧ e.tg = k)) := by
  rw [del, Gr.push_del h h7 hW k G.n (Nat.le_refl _), Gr.push_new, Gr.push_hasn, Bool.and_true]
theorem Gr.push_stV (h : G.ok) (h7 : e.nu = G.cn e.sl) (hW : W e.sl = e.nu) {k : Nat} (hk : k < G.n) : stV (G.push e m ag) (updN W e.sl (e.nu + 1)) (G.n + 1) k = if e.ch = none ∧ e.tg = k ∧ stV G W G.n k = 1 then 2 else stV G W G.n k := by
  rw [stV, Gr.push_has h h7 hW hk, Gr.push_deln h h7 hW]
  by_cases q : e.ch = none ∧ e.tg = k
  · rw [decide_eq_true q, Bool.or_true]
    unfold stV
    cases G.has W k <;> cases del G W G.n k <;> simp [q]
  · have e0 : ¬ (e.ch = none ∧ e.tg = k ∧ stV G W G.n k = 1) := fun z => q ⟨z.1, z.2.1⟩
    rw [decide_eq_false q, Bool.or_false, if_neg e0, stV]
theorem Gr.push_stVn (h : G.ok) (ht : G.okt) (h7 : e.nu = G.cn e.sl) (hW : W e.sl = e.nu) (he : e.ch ≠ none) : stV (G.push e m ag) (updN W e.sl (e.nu + 1)) (G.n + 1) G.n = 1 := by
  rw [stV, if_pos Gr.push_hasn, Gr.push_deln h h7 hW, del_lt ht (Nat.le_refl _) (by omega), decide_eq_false (fun q => he q.1)]
  rfl
theorem Gr.push_stk (k : Nat) : stk (G.push e m ag) k = (stk G k).or (if e.ch = none ∧ e.tg = k then some G.n else none) := by
  unfold stk
  rw [Gr.push_n, List.range_succ, List.find?_append]
  have e1 : (List.range G.n).find? (fun j => decide (((G.push e m ag).ev j).ch = none ∧ ((G.push e m ag).ev j).tg = k)) = (List.range G.n).find? (fun j => decide ((G.ev j).ch = none ∧ (G.ev j).tg = k)) := by
    rw [← List.head?_filter, ← List.head?_filter]
    refine congrArg List.head? (List.filter_congr (fun x hx => ?_))
    rw [Gr.push_old (List.mem_range.1 hx)]
  rw [e1]
  have e2 : [G.n].find? (fun j => decide (((G.push e m ag).ev j).ch = none ∧ ((G.push e m ag).ev j).tg = k)) = if e.ch = none ∧ e.tg = k then some G.n else none := by
    rw [List.find?_cons, Gr.push_new]
    by_cases q : e.ch = none ∧ e.tg = k
    · rw [decide_eq_true q, if_pos q]
    · rw [decide_eq_false q, if_neg q]; rfl
  rw [e2]
theorem Gr.stk_lt (ht : G.okt) {k j : Nat} (h : stk G k = some j) : j < G.n ∧ (G.ev j).ch = none ∧ (G.ev j).tg = k := by
  have h1 := List.find?_some h
  have h2 := List.mem_of_find?_eq_some h
  exact ⟨List.mem_range.1 h2, of_decide_eq_true h1⟩
theorem Gr.stk_n (ht : G.okt) {k : Nat} (hk : G.n ≤ k + 1) : stk G k = none := by
  cases q : stk G k with
  | none => rfl
  | some j =>
    obtain ⟨a, b, c⟩ := Gr.stk_lt ht q
    have := ((ht j a).2 b).1
    omega
theorem Gr.push_evL (s : Nat) : evL (G.push e m ag) s = evL G s ++ if e.sl = s then [G.n] else [] := by
  unfold evL
  rw [Gr.push_n, List.range_succ, List.filter_append]
  have e1 : (List.range G.n).filter (fun k => decide (((G.push e m ag).ev k).sl = s)) = (List.range G.n).filter (fun k => decide ((G.ev k).sl = s)) := List.filter_congr (fun x hx => by rw [Gr.push_old (List.mem_range.1 hx)])
  rw [e1]
  refine congrArg _ ?_
  rw [List.filter_cons, Gr.push_new]
  by_cases q : e.sl = s
  · rw [if_pos q, if_pos (decide_eq_true q)]; rfl
  · rw [if_neg q, if_neg (by rw [decide_eq_false q]; decide)]; rfl
end PUSH
/-- what an event must be to come in: its slot is one of its graph's; its parents P are by rising keys, none an ancestor of another -/
def EvIn (G : Gr) (e : Ev) : Prop := G.n < 8192 ∧ e.sl < G.m ∧ e.nu = G.cn e.sl ∧ (∀ p, p ∈ e.pr → p < G.n) ∧ (∀ p q, p ∈ e.pr → q ∈ e.pr → G.bef p q = false) ∧ e.pr.Pairwise (fun p q => G.key p < G.key q) ∧ e.pa = G.jn e.pr ∧ e.pa e.sl = e.nu ∧ (∀ c, e.ch = some c → c < 2000000) ∧ e.ix ≤ 8192
theorem EvIn.ok {G : Gr} {e : Ev} (h : EvIn G e) (hG : G.ok) : (G.push e G.m G.ag).ok := by
  obtain ⟨h1, h2, h3, h4, h5, h6, h7, h8, -⟩ := h
  exact Gr.push_ok hG h1 (Nat.le_refl _) hG.hm (fun _ _ => rfl) hG.ag1 hG.ag2 (fun s hs => Or.inl hs) h2 h3 h4 h5 h6 (fun t => by rw [h7]) h8
/-- a node comes in -/
def lessK (G : Gr) (k y : Nat) : Bool := decide (G.key (y - 1) < G.key k)
theorem GT.ins {G : Gr} {T T' : Tr} {e : Ev} (h : GT G T) (he : EvIn G e) (hc : e.ch ≠ none) (hi : T.ins T' (ivW G e.pa) (snW G e.pa) (lessK (G.push e G.m G.ag) G.n) (G.n + 1) e.ix) (hp : ∀ k, k ≠ G.n + 1 → T'.pr k = T.pr k) {U V : List Nat} (hU : T.od = U ++ V) (hU' : T'.od = U ++ (G.n + 1) :: V) : GT (G.push e G.m G.ag) T' := by
  obtain ⟨h1, h2, h3, h4, h5, h6⟩ := h
  have old : ∀ k, k < G.n + 1 → k < G.n ∨ k = G.n := fun k hk => by omega
  have ho : ∀ x, x ∈ T'.od ↔ x ∈ T.od ∨ x = G.n + 1 := fun x => by
    rw [hU', hU, List.mem_append, List.mem_append, List.mem_cons]
    constructor
    · rintro (q | q | q)
      · exact Or.inl (Or.inl q)
      · exact Or.inr q
      · exact Or.inl (Or.inr q)
    · rintro ((q | q) | q)
      · exact Or.inl q
      · exact Or.inr (Or.inr q)
      · exact Or.inr (Or.inl q)
  have okt' : (G.push e G.m G.ag).okt := fun k hk => by
    rcases old k hk with q | q
    · rw [Gr.push_old q]
      refine ⟨(h2 k q).1, fun z => ?_⟩
      obtain ⟨a, b⟩ := (h2 k q).2 z
      exact ⟨a, by rw [Gr.push_old (by omega)]; exact b⟩
    · subst q
      rw [Gr.push_new]
      exact ⟨he.2.2.2.2.2.2.2.2.1, fun z => absurd z hc⟩
  obtain ⟨A1, B1, rg, i1, i2, i3, i4, i5, i6⟩ := id hi
  refine ⟨he.ok h1, okt', i6, fun x => ?_, fun k hk hz => ?_, fun k hk => ?_⟩
  · rw [ho, h4]
    constructor
    · rintro (⟨k, rfl, k1, k2⟩ | q)
      · exact ⟨k, rfl, Nat.lt_succ_of_lt k1, by rw [Gr.push_old k1]; exact k2⟩
      · exact ⟨G.n, q, Nat.lt_succ_self _, by rw [Gr.push_new]; exact hc⟩
    · rintro ⟨k, rfl, k1, k2⟩
      rcases old k k1 with q | q
      · exact Or.inl ⟨k, rfl, q, by rw [Gr.push_old q] at k2; exact k2⟩
      · exact Or.inr (by rw [q])
  · rcases (ho _).1 hk with q | q
    · obtain ⟨k', e1, k1, -⟩ := (h4 _).1 q
      have e1 : k = k' := by omega
      subst e1
      rw [hp _ (by omega)] at hz ⊢
      obtain ⟨hb0, hb⟩ := h5 k q hz
      obtain ⟨p, p1, pn, -⟩ := (h4 _).1 hb0
      refine ⟨(ho _).2 (Or.inl hb0), ?_⟩
      rw [p1, Nat.add_sub_cancel] at hb ⊢
      rw [Gr.push_bef pn k1]; exact hb
    · have e1 : k = G.n := by omega
      subst e1
      have hpr : T'.pr (G.n + 1) = rg.getD (A1.getLastD 0) := by
        rw [i5]
        unfold Tr.put
        split
        · exact updN_s
        · split
          · exact updN_s
          · exact updN_s
      have hx : T'.pr (G.n + 1) ∈ T.od ∧ ivW G e.pa (T'.pr (G.n + 1)) = true := by
        rw [hpr] at hz ⊢
        cases hr : rg with
        | none =>
          rw [hr] at hz
          have hz : A1.getLastD 0 ≠ 0 := hz
          show A1.getLastD 0 ∈ T.od ∧ ivW G e.pa (A1.getLastD 0) = true
          refine ⟨last_in.elim (fun w => absurd w.1 hz) (fun w => by rw [i1]; exact List.mem_append_left _ w), ?_⟩
          rcases i2 with w | w
          · rw [w] at hz; exact absurd rfl hz
          · simp only [snW, ivW, decide_eq_true_eq] at w ⊢
            omega
        | some r =>
          show r ∈ T.od ∧ ivW G e.pa r = true
          refine ⟨by rw [i1]; exact List.mem_append_right _ (Tr.rgt_mem i4 hr), ?_⟩
          rcases i4 with ⟨-, f⟩ | ⟨-, f⟩
          · rw [hr] at f; exact List.find?_some f.symm
          · rw [hr] at f; cases f
      refine ⟨(ho _).2 (Or.inl hx.1), ?_⟩
      obtain ⟨p, p1, pn, -⟩ := (h4 _).1 hx.1
      have h9 := hx.2
      rw [ivW_has, p1, Nat.add_sub_cancel] at h9
      rw [p1, Nat.add_sub_cancel, Gr.push_befn pn]; exact h9
  · rcases old k hk with q | q
    · rw [Gr.push_old q]; exact h6 k q
    · subst q; rw [Gr.push_new]; exact he.2.2.2.2.2.2.2.2.2
theorem GT.del {G : Gr} {T : Tr} {e : Ev} (h : GT G T) (he : EvIn G e) (hc : e.ch = none) (ht : e.tg + 1 ∈ T.od) : GT (G.push e G.m G.ag) T := by
  obtain ⟨h1, h2, h3, h4, h5, h6⟩ := h
  have old : ∀ k, k < G.n + 1 → k < G.n ∨ k = G.n := fun k hk => by omega
  obtain ⟨t0, t1, t2, t3⟩ := (h4 _).1 ht
  have t1 : e.tg = t0 := by omega
  subst t1
  refine ⟨he.ok h1, fun k hk => ?_, h3, fun x => ?_, fun k hk hz => ?_, fun k hk => ?_⟩
  · rcases old k hk with q | q
    · rw [Gr.push_old q]
      refine ⟨(h2 k q).1, fun z => ?_⟩
      obtain ⟨a, b⟩ := (h2 k q).2 z
      exact ⟨a, by rw [Gr.push_old (by omega)]; exact b⟩
    · subst q
      rw [Gr.push_new]
      exact ⟨he.2.2.2.2.2.2.2.2.1, fun z => ⟨t2, by rw [Gr.push_old t2]; exact t3⟩⟩
  · rw [h4]
    constructor
    · rintro ⟨k, rfl, k1, k2⟩
      exact ⟨k, rfl, Nat.lt_succ_of_lt k1, by rw [Gr.push_old k1]; exact k2⟩
    · rintro ⟨k, rfl, k1, k2⟩
      rcases old k k1 with q | q
      · exact ⟨k, rfl, q, by rw [Gr.push_old q] at k2; exact k2⟩
      · subst q; rw [Gr.push_new] at k2; exact absurd hc k2
  · obtain ⟨hb0, hb⟩ := h5 k hk hz
    obtain ⟨p, p1, pn, -⟩ := (h4 _).1 hb0
    obtain ⟨k', k1, k2, -⟩ := (h4 _).1 hk
    have k1 : k = k' := by omega
    subst k1
    refine ⟨hb0, ?_⟩
    rw [p1, Nat.add_sub_cancel] at hb ⊢
    rw [Gr.push_bef pn k2]; exact hb
  · rcases old k hk with q | q
    · rw [Gr.push_old q]; exact h6 k q
    · subst q; rw [Gr.push_new]; exact he.2.2.2.2.2.2.2.2.2
/-- the version behind an event -/
def wNx (e : Ev) : Nat → Nat := updN e.pa e.sl (e.nu + 1)
section NEXT
variable {G : Gr} {T T' : Tr} {e : Ev}
theorem GT.sn_old (h : GT G T) (he : EvIn G e) (hc : e.ch ≠ none) {x : Nat} (hx : x ∈ T.od) : snW (G.push e G.m G.ag) (wNx e) x = snW G e.pa x := by
  obtain ⟨k, rfl, k1, -⟩ := (h.2.2.2.1 x).1 hx
  rw [snW, snW, Nat.add_sub_cancel, wNx, Gr.push_n, Gr.push_stV h.1 he.2.2.1 he.2.2.2.2.2.2.2.1 k1, if_neg (fun q => hc q.1)]
theorem GT.sn_new (h : GT G T) (he : EvIn G e) (hc : e.ch ≠ none) : snW (G.push e G.m G.ag) (wNx e) (G.n + 1) = true := by
  rw [snW, Nat.add_sub_cancel, wNx, Gr.push_n, Gr.push_stVn h.1 h.2.1 he.2.2.1 he.2.2.2.2.2.2.2.1 hc]; rfl
theorem fil_cg {L : List Nat} {p q : Nat → Bool} (h : ∀ x ∈ L, q x = p x) : L.filter q = L.filter p := List.filter_congr h
theorem gt_c1_ins (h : GT G T) (h' : GT (G.push e G.m G.ag) T') (he : EvIn G e) (hc : e.ch ≠ none) {U V : List Nat} (hU : T.od = U ++ V) (hU' : T'.od = U ++ (G.n + 1) :: V) : c1 (G.push e G.m G.ag) (wNx e) (G.push e G.m G.ag).n = c1 G e.pa G.n + 1 := by
  rw [h'.c1, h.c1, hU', hU, List.filter_append, List.filter_append, List.filter_cons, if_pos (h.sn_new he hc), fil_cg (p := snW G e.pa) (L := U) (fun x hx => h.sn_old he hc (by rw [hU]; simp [hx])), fil_cg (p := snW G e.pa) (L := V) (fun x hx => h.sn_old he hc (by rw [hU]; simp [hx]))]
  simp; omega
theorem GT.vis_ins (h : GT G T) (hc : e.ch ≠ none) {U V : List Nat} (hU : T.od = U ++ V) (hU' : T'.od = U ++ (G.n + 1) :: V) : visN (G.push e G.m G.ag) T' = visN G T + 1 := by
  have ov : ∀ x, vis (G.push e G.m G.ag) x = vis G x := fun x => by
    rw [vis, vis, Gr.push_stk, if_neg (fun q => hc q.1), Option.or_none]
  have nv : vis G (G.n + 1) = true := by
    rw [vis, Nat.add_sub_cancel, Gr.stk_n h.2.1 (by omega)]; rfl
  rw [visN, visN, hU', hU, fil_cg (p := vis G) (fun x _ => ov x), List.filter_append, List.filter_append, List.filter_cons, if_pos nv]
  simp; omega
theorem gt_c1_del (h : GT G T) (h' : GT (G.push e G.m G.ag) T) (he : EvIn G e) (hc : e.ch = none) (ht : e.tg + 1 ∈ T.od) (hs : snW G e.pa (e.tg + 1) = true) : c1 (G.push e G.m G.ag) (wNx e) (G.push e G.m G.ag).n + 1 = c1 G e.pa G.n := by
  have sv : ∀ k, k < G.n → stV (G.push e G.m G.ag) (wNx e) (G.n + 1) k = if e.ch = none ∧ e.tg = k ∧ stV G e.pa G.n k = 1 then 2 else stV G e.pa G.n k := fun k hk => Gr.push_stV h.1 he.2.2.1 he.2.2.2.2.2.2.2.1 hk
  rw [h'.c1, h.c1]
  have s1 : stV G e.pa G.n e.tg = 1 := of_decide_eq_true hs
  obtain ⟨t0, t1, t2, -⟩ := (h.2.2.2.1 _).1 ht
  have t1 : e.tg = t0 := by omega
  subst t1
  refine fil_drop h.2.2.1.2.1 ht hs ?_ (fun x hx hne => ?_)
  · rw [snW, Nat.add_sub_cancel, Gr.push_n, sv _ t2, if_pos ⟨hc, rfl, s1⟩]; rfl
  · obtain ⟨k, rfl, k1, -⟩ := (h.2.2.2.1 x).1 hx
    rw [snW, snW, Nat.add_sub_cancel, Gr.push_n, sv k k1, if_neg (fun q => hne (by rw [q.2.1]))]
theorem GT.vis_del (h : GT G T) (hc : e.ch = none) (ht : e.tg + 1 ∈ T.od) : visN (G.push e G.m G.ag) T + (if stk G e.tg = none then 1 else 0) = visN G T := by
  by_cases q : stk G e.tg = none
  · rw [if_pos q]
    refine fil_drop h.2.2.1.2.1 ht (decide_eq_true q) ?_ (fun x hx hne => ?_)
    · rw [vis, Nat.add_sub_cancel, Gr.push_stk, q, if_pos ⟨hc, rfl⟩]; rfl
    · rw [vis, vis, Gr.push_stk, if_neg (fun z => ?_), Option.or_none]
      obtain ⟨k, rfl, -⟩ := (h.2.2.2.1 x).1 hx
      exact hne (by rw [z.2, Nat.add_sub_cancel])
  · rw [if_neg q, Nat.add_zero]
    refine congrArg List.length (fil_cg (fun x hx => ?_))
    rw [vis, vis, Gr.push_stk]
    by_cases z : e.tg = x - 1
    · rw [← z]
      cases w : stk G e.tg with
      | none => exact absurd w q
      | some j => rfl
    · rw [if_neg (fun w => z w.2), Option.or_none]
theorem EvIn.key (he : EvIn G e) {k : Nat} (hk : k < G.n) : (G.push e G.m G.ag).key k = G.key k := by
  rw [Gr.key, Gr.key, Gr.push_old hk]; rfl
theorem EvIn.ver (he : EvIn G e) (h : G.ok) : (G.push e G.m G.ag).Ver (wNx e) ∧ ∀ s, G.m ≤ s → wNx e s = 0 := by
  obtain ⟨h1, h2, h3, h4, h5, h6, h7, h8, -⟩ := he
  have vj := Gr.jn_ver h h4
  rw [← h7] at vj
  refine ⟨⟨fun s => ?_, fun k hk hh t => ?_⟩, fun s hs => ?_⟩
  · rw [Gr.push_cn, wNx]
    by_cases q : s = e.sl
    · subst q; rw [updN_s, if_pos rfl]; omega
    · rw [updN_o q, if_neg (fun z => q z.symm)]; exact vj.1 s
  · have le : e.pa t ≤ wNx e t := by
      rw [wNx]
      by_cases q : t = e.sl
      · subst q; rw [updN_s]; omega
      · rw [updN_o q]; exact Nat.le_refl _
    rcases (show k < G.n ∨ k = G.n by have : k < G.n + 1 := hk; omega) with q | q
    · rw [wNx, Gr.push_has h h3 h8 q] at hh
      rw [Gr.push_old q]
      exact Nat.le_trans (vj.2 k q hh t) le
    · subst q; rw [Gr.push_new]; exact le
  · rw [wNx, updN_o (by omega)]
    have := vj.1 s
    rw [Gr.cn, Gr.cnt_m h (Nat.le_refl _) hs] at this
    omega
theorem HdN.hd {H H2 : List Nat} (hd : HdS G H) (h : G.ok) (he : EvIn G e) (hn : HdN (G.push e G.m G.ag) H G.n H2) : HdS (G.push e G.m G.ag) H2 := by
  obtain ⟨n1, n2, -⟩ := hn
  refine ⟨fun k => ?_, n2⟩
  have hp := Gr.head_push (m := G.m) (ag := G.ag) h he.2.2.1 he.2.2.2.1 (fun t => by rw [he.2.2.2.2.2.2.1]) he.2.2.2.2.2.2.2.1 k
  rw [n1, Gr.push_new, hd.1 k]
  exact hp.symm
end NEXT
