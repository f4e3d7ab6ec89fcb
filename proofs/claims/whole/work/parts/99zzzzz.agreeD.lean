/-! ===== Own events: what they do to the text ===== -/
section OWE
variable {G G' : Gr} {T T' : Tr} {p s ix : Nat} {oc : Option Nat}
/-- where all events are known, a new node stands right behind the last one that it counts -/
theorem gt_insA {W : Nat → Nat} {lt : Nat → Bool} (h : GT G T) (hV : G.Ver W) (hall : ∀ y, y ∈ T.od → ivW G W y = true) (hi : T.ins T' (ivW G W) (snW G W) lt (G.n + 1) ix) : ∃ A B, T.od = A ++ B ∧ T'.od = A ++ (G.n + 1) :: B ∧ (A.filter (snW G W)).length = ix ∧ (A = [] ∨ snW G W (A.getLastD 0) = true) := by
  obtain ⟨h1, h2, h3, h4, h5, h6⟩ := h
  obtain ⟨A, B, rg, i1, i2, i3, i4, i5, i6⟩ := id hi
  have nin : G.n + 1 ∉ T.od := fun q => by
    obtain ⟨k, k1, k2, -⟩ := (h4 _).1 q
    omega
  have hv : ∀ c, c ∈ T.od → ivW G W c = true → T.pr c ≠ 0 → ivW G W (T.pr c) = true := fun c hc w hp => by
    obtain ⟨k, rfl, k1, -⟩ := (h4 c).1 hc
    exact hall _ (h5 k hc hp).1
  have hs : ∀ y, snW G W y = true → ivW G W y = true := fun y q => by
    simp only [snW, ivW, decide_eq_true_eq] at q ⊢
    omega
  obtain ⟨T2, P, Q1, Q2, R, t1, t2, t3, t4, t5, t6, t7, t8, -⟩ := Tr.ins_ex (lt := lt) h3 nin (by omega) hv hs i1 i2 i4
  rw [i3] at t1 t5
  have := Tr.ins_uniq hi t1
  subst this
  have c := Tr.cnt_ok (sn := ivW G W) h3 hv (fun _ q => q) i1 i4 t3 t6 t7 t8
  rw [List.filter_eq_self.2 (fun y hy => hall y (by rw [t3]; exact List.mem_append_left _ hy)), List.filter_eq_self.2 (fun y hy => hall y (by rw [i1]; exact List.mem_append_left _ hy))] at c
  obtain ⟨e1, e2⟩ := List.append_inj (t3.symm.trans i1) c
  refine ⟨A, B, i1, ?_, i3, i2⟩
  rw [t4, e1, e2]
theorem OwS.insA (h : OwS G T p s oc ix G' T') (hc : oc ≠ none) (hg : GT G T) (hs : OwSl G p s) (hp : p < 256) : ∃ A B, T.od = A ++ B ∧ T'.od = A ++ (G.n + 1) :: B ∧ (A.filter (vis G)).length = ix ∧ (A = [] ∨ vis G (A.getLastD 0) = true) ∧ (∀ y, y ∈ T.od → vis G' y = vis G y) ∧ vis G' (G.n + 1) = true ∧ (∀ k, k < G.n → G'.ev k = G.ev k) ∧ (G'.ev G.n).ch = oc := by
  obtain ⟨H, hH, h⟩ := h
  have hold : ∀ k, k < G.n → G'.ev k = G.ev k := fun k hk => h.old hk
  obtain ⟨e, e1, e2, e3, e4, e5, e6, e7, rfl, e8, e9⟩ := h
  have hge : GT (eGr G s p) T := hs.gt hg hp
  have en := eGr_n G s p
  rcases e9 with ⟨-, -, e11⟩ | ⟨q, -⟩
  · have ep : e.pa = (eGr G s p).cn := by rw [e3, hH.jn hg.1, ← eGr_cn G s p]
    have e11 : T.ins T' (ivW (eGr G s p) e.pa) (snW (eGr G s p) e.pa) (lessK ((eGr G s p).push e (eGr G s p).m (eGr G s p).ag) G.n) ((eGr G s p).n + 1) ix := by rw [en.1]; exact e11
    rw [ep] at e11
    have nd : ∀ y, y ∈ T.od → ∃ k, y = k + 1 ∧ k < (eGr G s p).n := fun y hy => by
      obtain ⟨k, k1, k2, -⟩ := (hge.2.2.2.1 _).1 hy
      exact ⟨k, k1, k2⟩
    obtain ⟨A, B, a1, a2, a3, a4⟩ := gt_insA hge (Gr.cn_ver hge.1).1 (fun y hy => by
      obtain ⟨k, rfl, k2⟩ := nd y hy
      rw [ivW_has, Nat.add_sub_cancel]
      exact decide_eq_true (Gr.nu_cn hge.1 k2)) e11
    have sv : ∀ y, y ∈ T.od → snW (eGr G s p) (eGr G s p).cn y = vis G y := fun y hy => by
      obtain ⟨k, rfl, k2⟩ := nd y hy
      rw [vis_sn hge.1 k2, eGr_vis]
    have sA : ∀ y, y ∈ A → y ∈ T.od := fun y hy => by rw [a1]; exact List.mem_append_left _ hy
    have ec : ∀ k, ¬ (e.ch = none ∧ e.tg = k) := fun k w => hc (e5.symm.trans w.1)
    refine ⟨A, B, a1, by rw [a2, en.1], ?_, ?_, fun y hy => ?_, ?_, hold, ?_⟩
    · rw [← a3]
      congr 1
      exact List.filter_congr (fun y hy => (sv y (sA y hy)).symm)
    · rcases a4 with w | w
      · exact Or.inl w
      · by_cases z : A = []
        · exact Or.inl z
        · refine Or.inr ?_
          rw [← sv _ (sA _ ?_)]
          · exact w
          · obtain ⟨A0, l, rfl⟩ : ∃ A0 l, A = A0 ++ [l] := ⟨A.dropLast, A.getLast z, (List.dropLast_concat_getLast z).symm⟩
            rw [List.getLastD_concat]; simp
    · obtain ⟨k, rfl, k2⟩ := nd y hy
      unfold vis
      rw [Nat.add_sub_cancel, Gr.push_stk, if_neg (ec k), eGr_stk, Option.or_none]
    · unfold vis
      rw [Nat.add_sub_cancel, Gr.push_stk, if_neg (ec _), Option.or_none, Gr.stk_n hge.2.1 (by rw [en.1]; omega)]
      rfl
    · have := Gr.push_new (G := eGr G s p) (e := e) (m := (eGr G s p).m) (ag := (eGr G s p).ag)
      rw [en.1] at this
      rw [this, e5]
  · exact absurd q hc
theorem OwS.delA (h : OwS G T p s none ix G' T') (hg : GT G T) (hs : OwSl G p s) (hp : p < 256) : T' = T ∧ ∃ U V x, T.od = U ++ x :: V ∧ vis G x = true ∧ (U.filter (vis G)).length = ix ∧ (∀ y, y ∈ T.od → vis G' y = (vis G y && decide (y ≠ x))) ∧ (∀ k, k < G.n → G'.ev k = G.ev k) ∧ (G'.ev G.n).ch = none ∧ (G'.ev G.n).tg + 1 = x := by
  obtain ⟨H, hH, h⟩ := h
  have hold : ∀ k, k < G.n → G'.ev k = G.ev k := fun k hk => h.old hk
  obtain ⟨e, e1, e2, e3, e4, e5, e6, e7, rfl, e8, e9⟩ := h
  have hge : GT (eGr G s p) T := hs.gt hg hp
  have en := eGr_n G s p
  rcases e9 with ⟨q, -⟩ | ⟨-, e10, U, V, u1, u2, u3⟩
  · exact absurd rfl q
  · have nd : ∀ y, y ∈ T.od → ∃ k, y = k + 1 ∧ k < (eGr G s p).n := fun y hy => by
      obtain ⟨k, k1, k2, -⟩ := (hge.2.2.2.1 _).1 hy
      exact ⟨k, k1, k2⟩
    have sv : ∀ w, w ∈ T.od → snW (eGr G s p) e.pa w = vis G w := fun w hw => by
      obtain ⟨k, rfl, k2⟩ := nd w hw
      rw [e3, hH.jn hg.1, ← eGr_cn G s p, vis_sn hge.1 k2, eGr_vis]
    have to : e.tg + 1 ∈ T.od := by rw [u1]; simp
    have pn := Gr.push_new (G := eGr G s p) (e := e) (m := (eGr G s p).m) (ag := (eGr G s p).ag)
    rw [en.1] at pn
    refine ⟨e10, U, V, e.tg + 1, u1, by rw [← sv _ to]; exact u2, ?_, fun y hy => ?_, hold, by rw [pn, e5], by rw [pn]⟩
    · rw [← e6, ← u3]
      congr 1
      exact (List.filter_congr (fun w hw => sv w (by rw [u1]; exact List.mem_append_left _ hw))).symm
    · obtain ⟨k, rfl, k2⟩ := nd y hy
      unfold vis
      rw [Nat.add_sub_cancel, Gr.push_stk, eGr_stk]
      by_cases c : e.tg = k
      · rw [if_pos ⟨e5, c⟩, decide_eq_false (p := k + 1 ≠ e.tg + 1) (fun w => w (by rw [c])), Bool.and_false]
        refine decide_eq_false (fun w => ?_)
        cases hh : stk G k with
        | none => rw [hh] at w; cases w
        | some z => rw [hh] at w; cases w
      · rw [if_neg (fun w => c w.2), Option.or_none, decide_eq_true (p := k + 1 ≠ e.tg + 1) (fun w => c (by omega)), Bool.and_true]
/-- the ranks behind a new node -/
theorem rk_up {A B : List Nat} {x e : Nat} (hn : T.od.Nodup) (hn' : T'.od.Nodup) (h1 : T.od = A ++ B) (h2 : T'.od = A ++ e :: B) (hA : A = [] ∨ vis G (A.getLastD 0) = true) (hv : ∀ y, y ∈ T.od → vis G' y = vis G y) (hve : vis G' e = true) (hx : x ∈ T.od) (hr : (A.filter (vis G)).length ≤ rkN G T x) : rkN G' T' x = rkN G T x + 1 := by
  have hb : x ∈ B := by
    have hx2 := hx
    rw [h1] at hx2
    rcases List.mem_append.1 hx2 with w | w
    · exfalso
      have hne : A ≠ [] := fun z => by rw [z] at w; cases w
      have hl := hA.resolve_left hne
      obtain ⟨A0, l, rfl⟩ : ∃ A0 l, A = A0 ++ [l] := ⟨A.dropLast, A.getLast hne, (List.dropLast_concat_getLast hne).symm⟩
      rw [List.getLastD_concat] at hl
      rcases List.mem_append.1 w with w | w
      · obtain ⟨U, V, rfl⟩ := List.append_of_mem w
        have e1 : T.od = U ++ x :: (V ++ l :: B) := by rw [h1]; simp
        rw [rkN_at hn e1, List.filter_append, List.filter_append, List.length_append, List.length_append, List.filter_cons_of_pos hl] at hr
        simp at hr
        omega
      · have w := List.mem_singleton.1 w
        subst w
        have e1 : T.od = A0 ++ x :: B := by rw [h1]; simp
        rw [rkN_at hn e1, List.filter_append, List.length_append, List.filter_cons_of_pos hl] at hr
        simp at hr
        omega
    · exact w
  obtain ⟨U, V, rfl⟩ := List.append_of_mem hb
  have e1 : T.od = (A ++ U) ++ x :: V := by rw [h1]; simp
  have e2 : T'.od = (A ++ e :: U) ++ x :: V := by rw [h2]; simp
  have c1 : A.filter (vis G') = A.filter (vis G) := List.filter_congr (fun y hy => hv y (by rw [h1]; exact List.mem_append_left _ hy))
  have c2 : U.filter (vis G') = U.filter (vis G) := List.filter_congr (fun y hy => hv y (by rw [h1]; simp [hy]))
  rw [rkN_at hn e1, rkN_at hn' e2, List.filter_append, List.filter_append, List.filter_cons_of_pos hve, c1, c2, List.length_append, List.length_append, List.length_cons]
  omega
theorem rkN_mo {x y : Nat} (hn : T.od.Nodup) (h : bfr T x y) : rkN G T x ≤ rkN G T y := by
  obtain ⟨U, V, W, e⟩ := h
  have e2 : T.od = (U ++ x :: V) ++ y :: W := by rw [e]; simp
  rw [rkN_at hn e, rkN_at hn e2, List.filter_append, List.length_append]
  exact Nat.le_add_right _ _
end OWE
/-! ===== Agreement: undo ===== -/
section UND
variable {G : Gr} {T : Tr} {p s fi sz : Nat}
/-- a deletion's nodes come again: both ways alike -/
theorem ia_ru {x : Nat → Nat} {Ga Gb : Gr} {Ta Tb : Tr} (hp : p < 256) (hmo : ∀ k k', k ≤ k' → k' < sz → rkN G T (x k) ≤ rkN G T (x k')) : ∀ {m j : Nat} {G1 : Gr} {T1 : Tr}, j + m = sz → GT G1 T1 → (m ≠ 0 → OwSl G1 p s) → (∀ k, j ≤ k → k < sz → x k ∈ T1.od ∧ rkN G1 T1 (x k) = rkN G T (x k) + j ∧ (G1.ev (x k - 1)).ch = (G.ev (x k - 1)).ch) → Run p s ((List.range' j m).map (fun k => ((G.ev (x k - 1)).ch, rkN G T (x k) + k))) G1 T1 Ga Ta → RuR p s false ((List.range' j m).map x) G1 T1 Gb Tb → Ga = Gb ∧ Ta = Tb
  | 0, j, G1, T1, hj, hg, hs, hI, h1, h2 => ⟨h1.1.trans h2.1.symm, h1.2.trans h2.2.symm⟩
  | m + 1, j, G1, T1, hj, hg, hs, hI, h1, h2 => by
    rw [List.range'_succ, List.map_cons] at h1 h2
    obtain ⟨G2, T2, a1, a2⟩ := h1
    obtain ⟨G3, T3, b1, b2⟩ := h2
    have hs := hs (Nat.succ_ne_zero m)
    obtain ⟨i1, i2, i3⟩ := hI j (Nat.le_refl _) (by omega)
    have b1 : OwS G1 T1 p s (G1.ev (x j - 1)).ch (rkN G1 T1 (x j)) G3 T3 := b1
    rw [i2, i3] at b1
    obtain ⟨rfl, rfl⟩ := a1.uq b1
    have hc : (G.ev (x j - 1)).ch ≠ none := by
      rw [← i3]
      obtain ⟨k, k1, k2, k3⟩ := (hg.2.2.2.1 _).1 i1
      rw [k1, Nat.add_sub_cancel]; exact k3
    obtain ⟨A, B, c1, c2, c3, c4, c5, c6, c7, c8⟩ := a1.insA hc hg hs hp
    obtain ⟨n1, n2, n3, n4⟩ := a1.nx hs
    refine ia_ru hp hmo (by omega) n4 (fun _ => n3) (fun k hk hk2 => ?_) a2 b2
    obtain ⟨j1, j2, j3⟩ := hI k (by omega) hk2
    have mo := hmo j k (by omega) hk2
    refine ⟨?_, ?_, ?_⟩
    · rw [c2]
      rw [c1] at j1
      rcases List.mem_append.1 j1 with w | w
      · exact List.mem_append_left _ w
      · exact List.mem_append_right _ (List.mem_cons_of_mem _ w)
    · rw [rk_up hg.2.2.1.2.1 n4.2.2.1.2.1 c1 c2 c4 c5 c6 j1 (by rw [c3, j2]; omega), j2]; omega
    · rw [← j3]
      obtain ⟨k0, k1, k2, -⟩ := (hg.2.2.2.1 _).1 j1
      rw [c7 (x k - 1) (by omega)]
/-- an insertion's nodes are struck: both ways alike -/
theorem un_ru {Ga Gb : Gr} {Ta Tb : Tr} (hp : p < 256) (hn : T.od.Nodup) (hb : ∀ k k', k < k' → k' < sz → bfr T (fi + k + 1) (fi + k' + 1)) (hm : ∀ k, k < sz → fi + k + 1 ∈ T.od) : ∀ {k : Nat} {G1 : Gr} {T1 : Tr}, k ≤ sz → T1 = T → GT G1 T1 → (k ≠ 0 → OwSl G1 p s) → (∀ y, y ∈ T.od → (∀ j, k ≤ j → j < sz → y ≠ fi + j + 1) → vis G1 y = vis G y) → UnD p s fi (fun k => rkN G T (fi + k + 1)) k G1 T1 Ga Ta → RuR p s true (((List.range k).filter (fun j => vis G (fi + j + 1))).map (fun j => fi + j + 1)).reverse G1 T1 Gb Tb → Ga = Gb ∧ Ta = Tb
  | 0, G1, T1, hk, hT, hg, hs, hI, h1, h2 => ⟨h1.1.trans h2.1.symm, h1.2.trans h2.2.symm⟩
  | k + 1, G1, T1, hk, hT, hg, hs, hI, h1, h2 => by
    have hT := hT.symm
    subst hT
    have hs := hs (Nat.succ_ne_zero k)
    have hx := hm k (by omega)
    have vx : vis G1 (fi + k + 1) = vis G (fi + k + 1) := hI _ hx (fun j j1 j2 => by omega)
    have er : (((List.range (k + 1)).filter (fun j => vis G (fi + j + 1))).map (fun j => fi + j + 1)).reverse = (if vis G (fi + k + 1) = true then [fi + k + 1] else []) ++ (((List.range k).filter (fun j => vis G (fi + j + 1))).map (fun j => fi + j + 1)).reverse := by
      rw [List.range_succ, List.filter_append, List.map_append, List.reverse_append]
      congr 1
      by_cases c : vis G (fi + k + 1) = true
      · rw [if_pos c, List.filter_cons_of_pos (p := fun j => vis G (fi + j + 1)) c]; rfl
      · rw [if_neg c, List.filter_cons_of_neg (p := fun j => vis G (fi + j + 1)) c]; rfl
    rw [er] at h2
    rcases h1 with ⟨v1, G2, T2, a1, a2⟩ | ⟨v1, a2⟩
    · rw [vx] at v1
      rw [if_pos v1] at h2
      obtain ⟨G3, T3, b1, b2⟩ := h2
      obtain ⟨U, V, u1⟩ := List.append_of_mem hx
      have rk : rkN G1 T (fi + k + 1) = rkN G T (fi + k + 1) := by
        rw [rkN_at hn u1, rkN_at hn u1]
        congr 1
        refine List.filter_congr (fun y hy => hI y (by rw [u1]; exact List.mem_append_left _ hy) (fun j j1 j2 e => ?_))
        obtain ⟨U', V', W', u2⟩ := hb k j (by omega) j2
        have u3 : U = U' := (mid_uniq (u1.symm.trans u2) (u1 ▸ hn)).1
        rw [u3, e] at hy
        have nd := hn
        rw [u2] at nd
        exact (List.nodup_append.1 nd).2.2 _ hy _ (by simp) rfl
      have b1 : OwS G1 T p s none (rkN G1 T (fi + k + 1)) G3 T3 := b1
      have a1 : OwS G1 T p s none (rkN G T (fi + k + 1)) G2 T2 := a1
      rw [rk] at b1
      obtain ⟨rfl, rfl⟩ := a1.uq b1
      obtain ⟨hT2, U2, V2, x2, d1, d2, d3, d4, d5, d6, d7⟩ := a1.delA hg hs hp
      obtain ⟨n1, n2, n3, n4⟩ := a1.nx hs
      have ex : x2 = fi + k + 1 := flt_at d2 (vx.trans v1) (d1.symm.trans u1) (by rw [d3, ← rk, rkN_at hn u1])
      refine un_ru hp hn hb hm (by omega) hT2 n4 (fun _ => n3) (fun y hy hj => ?_) a2 b2
      rw [d4 y hy, hI y hy (fun j j1 j2 => hj j (by omega) j2), decide_eq_true (p := y ≠ x2) (by rw [ex]; exact hj k (Nat.le_refl _) (by omega)), Bool.and_true]
    · rw [vx] at v1
      rw [if_neg (by rw [v1]; decide)] at h2
      refine un_ru hp hn hb hm (by omega) rfl hg (fun _ => hs) (fun y hy hj => ?_) a2 h2
      by_cases c : y = fi + k + 1
      · rw [c, vx]
      · refine hI y hy (fun j j1 j2 => ?_)
        exact hj j (by omega) j2
/-- the place in a list -/
def ixO (O : List Nat) (x : Nat) : Nat := (O.takeWhile (fun y => y != x)).length
theorem ixO_at {O U V : List Nat} {x : Nat} (hn : O.Nodup) (e : O = U ++ x :: V) : ixO O x = U.length := by
  rw [ixO, e, tkw (fun q => ?_)]
  rw [e] at hn
  exact (List.nodup_append.1 hn).2.2 x q x List.mem_cons_self rfl
theorem ixO_sort {O : List Nat} (hn : O.Nodup) : O.Pairwise (fun a b => ixO O a < ixO O b) := by
  refine List.pairwise_iff_getElem.2 (fun i j hi hj hij => ?_)
  have key : ∀ i (hi : i < O.length), ixO O O[i] = i := fun i hi => by
    have e1 : O = O.take i ++ O[i] :: O.drop (i + 1) := by
      have e1 := (List.take_append_drop i O).symm
      rw [List.drop_eq_getElem_cons hi] at e1
      exact e1
    rw [ixO_at hn e1, List.length_take]; omega
  rw [key i hi, key j hj]; exact hij
theorem ixO_bfr {x y : Nat} (hn : T.od.Nodup) (h : bfr T x y) : ixO T.od x < ixO T.od y := by
  obtain ⟨U, V, W, e⟩ := h
  have e2 : T.od = (U ++ x :: V) ++ y :: W := by rw [e]; simp
  rw [ixO_at hn e, ixO_at hn e2]
  simp
theorem bfr_mem {x y : Nat} (h : bfr T x y) : x ∈ T.od ∧ y ∈ T.od := by
  obtain ⟨U, V, W, e⟩ := h
  rw [e]
  simp
theorem uA_iff {G : Gr} {n : Nat} {c : Bool × Nat × Nat} {x : Nat} : ∀ {m : Nat}, uA G n c x m = true ↔ ∃ k, k < m ∧ uH G n c x k = true
  | 0 => ⟨(fun h => by cases h), (fun ⟨k, k1, _⟩ => absurd k1 (Nat.not_lt_zero k))⟩
  | m + 1 => by
    rw [uA, Bool.or_eq_true, uA_iff]
    constructor
    · rintro (⟨k, k1, k2⟩ | h)
      · exact ⟨k, by omega, k2⟩
      · exact ⟨m, Nat.lt_succ_self m, h⟩
    · rintro ⟨k, k1, k2⟩
      by_cases e : k = m
      · exact Or.inr (e ▸ k2)
      · exact Or.inl ⟨k, by omega, k2⟩
/-- the nodes of an insertion that undoing works on -/
theorem uL_ins {n f : Nat} (hn : T.od.Nodup) (he : ∀ k, k < sz → uE G n (true, f, sz) k = fi + k) (hb : ∀ k k', k < k' → k' < sz → bfr T (fi + k + 1) (fi + k' + 1)) (hm : ∀ k, k < sz → fi + k + 1 ∈ T.od) : uL G n (true, f, sz) T.od = ((List.range sz).filter (fun j => vis G (fi + j + 1))).map (fun j => fi + j + 1) := by
  refine srt_uniq (f := ixO T.od) ((ixO_sort hn).filter _) ?_ (fun x => ?_)
  · rw [List.pairwise_map]
    refine (List.Pairwise.imp_of_mem (fun {a b} ha hb2 hlt => ?_) List.pairwise_lt_range).filter _
    exact ixO_bfr hn (hb a b hlt (List.mem_range.1 hb2))
  · unfold uL
    rw [List.mem_filter, List.mem_map, uA_iff]
    constructor
    · rintro ⟨h1, k, k1, k2⟩
      rw [uH, if_pos rfl, Bool.and_eq_true, he k k1, decide_eq_true_eq] at k2
      exact ⟨k, List.mem_filter.2 ⟨List.mem_range.2 k1, by rw [k2.1]; exact k2.2⟩, k2.1⟩
    · rintro ⟨k, k1, rfl⟩
      obtain ⟨k2, k3⟩ := List.mem_filter.1 k1
      have k2 := List.mem_range.1 k2
      refine ⟨hm k k2, k, k2, ?_⟩
      rw [uH, if_pos rfl, he k k2, Bool.and_eq_true]
      exact ⟨decide_eq_true rfl, k3⟩
theorem uL_del {n f : Nat} (hn : T.od.Nodup) (he : ∀ k, k < sz → uE G n (false, f, sz) k = fi + k) (hb : ∀ k k', k < k' → k' < sz → bfr T ((G.ev (fi + k)).tg + 1) ((G.ev (fi + k')).tg + 1)) (hm : ∀ k, k < sz → (G.ev (fi + k)).tg + 1 ∈ T.od) : uL G n (false, f, sz) T.od = (List.range sz).map (fun j => (G.ev (fi + j)).tg + 1) := by
  refine srt_uniq (f := ixO T.od) ((ixO_sort hn).filter _) ?_ (fun x => ?_)
  · rw [List.pairwise_map]
    refine List.Pairwise.imp_of_mem (fun {a b} ha hb2 hlt => ?_) List.pairwise_lt_range
    exact ixO_bfr hn (hb a b hlt (List.mem_range.1 hb2))
  · unfold uL
    rw [List.mem_filter, List.mem_map, uA_iff]
    constructor
    · rintro ⟨h1, k, k1, k2⟩
      rw [uH, if_neg (fun w => Bool.noConfusion (show false = true from w)), he k k1, decide_eq_true_eq] at k2
      exact ⟨k, List.mem_range.2 k1, k2⟩
    · rintro ⟨k, k1, rfl⟩
      have k1 := List.mem_range.1 k1
      refine ⟨hm k k1, k, k1, ?_⟩
      rw [uH, if_neg (fun w => Bool.noConfusion (show false = true from w)), he k k1]
      exact decide_eq_true rfl
theorem cuN_ins (h : ∀ k, k < sz → (G.ev (fi + k)).ch ≠ none) : ∀ {j : Nat}, j ≤ sz → cuN G fi j = ((List.range j).filter (fun k => vis G (fi + k + 1))).length
  | 0, _ => rfl
  | j + 1, hj => by
    have e : cuX G (fi + j) = vis G (fi + j + 1) := by
      unfold cuX vis
      rw [Nat.add_sub_cancel]
      by_cases c : stk G (fi + j) = none
      · rw [decide_eq_true c, decide_eq_true (Or.inr c)]
      · rw [decide_eq_false c, decide_eq_false (fun w => w.elim (h j (by omega)) c)]
    rw [cuN, cuN_ins h (by omega), e, List.range_succ, List.filter_append, List.length_append]
    congr 1
    by_cases c : vis G (fi + j + 1) = true
    · rw [if_pos c, List.filter_cons_of_pos (p := fun k => vis G (fi + k + 1)) c]; rfl
    · rw [if_neg c, List.filter_cons_of_neg (p := fun k => vis G (fi + k + 1)) c]; rfl
theorem cuN_dl (h : ∀ k, k < sz → (G.ev (fi + k)).ch = none) : ∀ {j : Nat}, j ≤ sz → cuN G fi j = j
  | 0, _ => rfl
  | j + 1, hj => by
    rw [cuN, cuN_dl h (by omega), if_pos]
    exact decide_eq_true (Or.inl (h j (by omega)))
/-- an edit: its nodes, or its targets, stand in the order of their numbers -/
def EdX (G : Gr) (T : Tr) (fi sz : Nat) : Prop := ((∀ k, k < sz → (G.ev (fi + k)).ch ≠ none) ∧ ∀ k k', k < k' → k' < sz → bfr T (fi + k + 1) (fi + k' + 1)) ∨ ((∀ k, k < sz → (G.ev (fi + k)).ch = none) ∧ ∀ k k', k < k' → k' < sz → bfr T ((G.ev (fi + k)).tg + 1) ((G.ev (fi + k')).tg + 1))
/-- an edit of the class and a call of the reference -/
def CaE (G : Gr) (n : Nat) (e : Nat × Nat) (c : Bool × Nat × Nat) : Prop := c.2.2 = e.2 ∧ (c.1 = true ↔ (G.ev e.1).ch ≠ none) ∧ ∀ k, k < e.2 → (agE G n)[c.2.1 + k]? = some (e.1 + k)
theorem ud_uq (hg : GT G T) {n : Nat} (hn : n < 4) {e : Nat × Nat} {c : Bool × Nat × Nat} (hs : OwSl G n s) (h1 : 1 ≤ e.2) (hx : EdX G T e.1 e.2) (hc : CaE G n e c) : cuN G e.1 e.2 = (uL G n c T.od).length ∧ ∀ {Ga Gb : Gr} {Ta Tb : Tr}, UndR n s e.1 e.2 G T Ga Ta → RuR n s c.1 (uM c.1 (uL G n c T.od)) G T Gb Tb → Ga = Gb ∧ Ta = Tb := by
  obtain ⟨fi, sz⟩ := e
  obtain ⟨b, f, m⟩ := c
  obtain ⟨c1, c2, c3⟩ := hc
  have c1 : m = sz := c1
  have h1 : 1 ≤ sz := h1
  subst c1
  have nd := hg.2.2.1.2.1
  have he : ∀ b k, k < m → uE G n (b, f, m) k = fi + k := fun b k hk => by
    have := c3 k hk
    unfold uE
    rw [List.getD_eq_getElem?_getD, this]; rfl
  rcases hx with ⟨x1, x2⟩ | ⟨x1, x2⟩
  · have hb : b = true := c2.2 (x1 0 h1)
    subst hb
    have hm : ∀ k, k < m → fi + k + 1 ∈ T.od := fun k hk => (hg.2.2.2.1 _).2 ⟨fi + k, rfl, by
      have := c3 k hk
      exact agE_n hg.1 (List.mem_of_getElem? this), x1 k hk⟩
    have e1 := uL_ins nd (he true) x2 hm
    refine ⟨by rw [e1, List.length_map]; exact cuN_ins x1 (Nat.le_refl _), fun {Ga Gb Ta Tb} q1 q2 => ?_⟩
    rcases q1 with ⟨-, q1⟩ | ⟨q1, -⟩
    · have q2 : RuR n s true (uL G n (true, f, m) T.od).reverse G T Gb Tb := q2
      rw [e1] at q2
      exact un_ru (by omega) nd x2 hm (Nat.le_refl _) rfl hg (fun _ => hs) (fun _ _ _ => rfl) q1 q2
    · exact absurd q1 (x1 0 h1)
  · have hb : b = false := by
      cases b with
      | false => rfl
      | true => exact absurd (x1 0 h1) (c2.1 rfl)
    subst hb
    have hm : ∀ k, k < m → (G.ev (fi + k)).tg + 1 ∈ T.od := fun k hk => by
      have hlt := agE_n hg.1 (List.mem_of_getElem? (c3 k hk))
      have ht := hg.2.1
      obtain ⟨t1, t2⟩ := (ht (fi + k) hlt).2 (x1 k hk)
      exact (hg.2.2.2.1 _).2 ⟨_, rfl, by omega, t2⟩
    have e1 := uL_del nd (he false) x2 hm
    refine ⟨by rw [e1, List.length_map, List.length_range]; exact cuN_dl x1 (Nat.le_refl _), fun {Ga Gb Ta Tb} q1 q2 => ?_⟩
    rcases q1 with ⟨q1, -⟩ | ⟨-, q1⟩
    · exact absurd (x1 0 h1) q1
    · have q2 : RuR n s false (uL G n (false, f, m) T.od) G T Gb Tb := q2
      rw [e1, List.range_eq_range'] at q2
      unfold iaO at q1
      rw [List.range_eq_range'] at q1
      refine ia_ru (G := G) (T := T) (sz := m) (x := fun k => (G.ev (fi + k)).tg + 1) (by omega) (fun k k' h1 h2 => ?_) (Nat.zero_add m) hg (fun _ => hs) (fun k _ hk => ⟨hm k hk, rfl, rfl⟩) q1 q2
      by_cases z : k = k'
      · rw [z]; exact Nat.le_refl _
      · exact rkN_mo nd (x2 k k' (by omega) h2)
end UND
