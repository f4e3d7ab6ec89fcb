/-! ===== Agreement: the events of a patch, their run ===== -/
/-- the class's events and the reference's, one by one; pv: the event before -/
def evR (L : List Nat) : Option (Nat × Nat) → List Ev3 → List Rv → Prop
  | _, [], [] => True
  | pv, x :: E, y :: E' => y.1 = x.1.1 ∧ y.2.1 = x.1.2.1 + x.2.1 ∧ y.2.2.1 = (thI x.1 x.2.1).toNat ∧ y.2.2.2.2 = x.2.2 ∧ ((0 < x.2.1 ∨ x.1.2.2.2.1 = 0) → ∃ u, pv = some u ∧ y.2.2.2.1 = [u]) ∧ (¬ (0 < x.2.1 ∨ x.1.2.2.2.1 = 0) → y.2.2.2.1 = rsv L x.1.2.2.2.2.1) ∧ evR L (some (y.1, y.2.1)) E E'
  | _, _, _ => False
section EVR
variable {L : List Nat} {A : List SpR} {D : List (List (Nat × Nat))} {O : List (Nat × Int)} {s : SpT} {j : Nat} {E : List Ev3} {E' : List Rv}
theorem evR_of (hA : A.getD j (0, 0, 0) = sp3 s) (hD : D.getD j [] = prF L A s j) (hO : O.getD j (0, 0) = op2 s) (hE : evR L (some (s.1, s.2.1 + s.2.2.1 - 1)) E E') (h1 : 1 ≤ s.2.2.1) : ∀ {m k : Nat} {sy : List Int32} {pv : Option (Nat × Nat)}, (k = 0 → s.2.2.2.1 = 0 → pv = some (pvS A j)) → (0 < k → pv = some (s.1, s.2.1 + k - 1)) → k + m = s.2.2.1 → evR L pv (evOf s m k sy ++ E) (rvOf A D O j m k sy ++ E')
  | 0, k, sy, pv, h2, h3, h4 => by
    have h4 : k = s.2.2.1 := h4
    rw [h3 (by omega), h4]
    exact hE
  | m + 1, k, sy, pv, h2, h3, h4 => by
    have ih := evR_of hA hD hO hE h1 (m := m) (k := k + 1) (sy := if s.2.2.2.2.2.2.1 = 0 then sy.tail else sy) (pv := some (s.1, s.2.1 + k)) (fun w => absurd w (Nat.succ_ne_zero k)) (fun _ => rfl) (by omega)
    have e1 : rvOf A D O j (m + 1) k sy = rvE A D O j k (if (O.getD j (0, 0)).1 = 0 then some (sy.headD 0).toNatClampNeg else none) :: rvOf A D O j m (k + 1) (if (O.getD j (0, 0)).1 = 0 then sy.tail else sy) := rfl
    have e2 : evOf s (m + 1) k sy = (s, k, if s.2.2.2.2.2.2.1 = 0 then some (sy.headD 0).toNatClampNeg else none) :: evOf s m (k + 1) (if s.2.2.2.2.2.2.1 = 0 then sy.tail else sy) := rfl
    have e3 : rvE A D O j k (if (O.getD j (0, 0)).1 = 0 then some (sy.headD 0).toNatClampNeg else none) = (s.1, s.2.1 + k, (thI s k).toNat, (if 0 < k then [(s.1, s.2.1 + k - 1)] else prF L A s j), if s.2.2.2.2.2.2.1 = 0 then some (sy.headD 0).toNatClampNeg else none) := by
      unfold rvE
      rw [hA, hD, hO]
      rfl
    rw [e1, e2, e3, hO]
    refine ⟨rfl, rfl, rfl, rfl, fun c => ?_, fun c => ?_, ih⟩
    · by_cases k0 : 0 < k
      · exact ⟨_, h3 k0, if_pos k0⟩
      · have c0 := c.resolve_left k0
        refine ⟨_, h2 (by omega) c0, ?_⟩
        show (if 0 < k then [(s.1, s.2.1 + k - 1)] else prF L A s j) = [pvS A j]
        rw [if_neg k0, prF, if_pos c0]
    · show (if 0 < k then [(s.1, s.2.1 + k - 1)] else prF L A s j) = rsv L s.2.2.2.2.1
      rw [if_neg (fun w => c (Or.inl w)), prF, if_neg (fun w => c (Or.inr w))]
theorem getD_ap {α : Type} {d : α} (M R : List α) (s : α) : (M ++ s :: R).getD M.length d = s := by
  rw [List.getD_eq_getElem?_getD, List.getElem?_append_right (Nat.le_refl _), Nat.sub_self]; rfl
theorem pas_get {AA : List SpR} : ∀ {M : List SpT} {R : List SpT} {s : SpT} {i : Nat}, (pas L AA i (M ++ s :: R)).getD M.length [] = prF L AA s (i + M.length)
  | [], R, s, i => rfl
  | a :: M, R, s, i => by
    have := pas_get (AA := AA) (M := M) (R := R) (s := s) (i := i + 1)
    rw [show i + 1 + M.length = i + (M.length + 1) by omega] at this
    exact this
theorem evR_all {AA : List SpT} (h0 : hd0 AA) (h1 : ∀ s, s ∈ AA → 1 ≤ s.2.2.1) : ∀ {R M : List SpT} {sy : List Int32} {pv : Option (Nat × Nat)}, AA = M ++ R → (M ≠ [] → pv = some (pvS (AA.map sp3) M.length)) → evR L pv (evAll R sy) (rvAll (AA.map sp3) (pas L (AA.map sp3) 0 AA) (AA.map op2) R.length M.length sy)
  | [], M, sy, pv, hA, hp => trivial
  | s :: R, M, sy, pv, hA, hp => by
    have a1 : (AA.map sp3).getD M.length (0, 0, 0) = sp3 s := by
      rw [hA, List.map_append, List.map_cons, ← List.length_map (f := sp3)]; exact getD_ap _ _ _
    have a2 : (AA.map op2).getD M.length (0, 0) = op2 s := by
      rw [hA, List.map_append, List.map_cons, ← List.length_map (f := op2)]; exact getD_ap _ _ _
    have a3 : (pas L (AA.map sp3) 0 AA).getD M.length [] = prF L (AA.map sp3) s M.length := by
      have := pas_get (L := L) (AA := AA.map sp3) (M := M) (R := R) (s := s) (i := 0)
      rw [Nat.zero_add, ← hA] at this
      exact this
    have hs : 1 ≤ s.2.2.1 := h1 s (by rw [hA]; exact List.mem_append_right _ (List.mem_cons_self ..))
    have el : (M ++ [s]).length = M.length + 1 := by rw [List.length_append]; rfl
    have ih := evR_all h0 h1 (R := R) (M := M ++ [s]) (sy := if s.2.2.2.2.2.2.1 = 0 then sy.drop s.2.2.1 else sy) (pv := some (s.1, s.2.1 + s.2.2.1 - 1)) (by rw [hA, List.append_assoc]; rfl) (fun _ => by
      rw [el, pvS, Nat.add_sub_cancel, a1]; rfl)
    rw [el] at ih
    have := evR_of (L := L) (D := pas L (AA.map sp3) 0 AA) (m := s.2.2.1) (k := 0) (sy := sy) (pv := pv) a1 a3 a2 ih hs (fun _ c => by
      refine hp (fun q => ?_)
      rw [q] at hA
      have hA : AA = s :: R := hA
      rw [hA] at h0
      exact h0 c) (fun w => absurd w (Nat.lt_irrefl 0)) (Nat.zero_add _)
    have e1 : rvAll (AA.map sp3) (pas L (AA.map sp3) 0 AA) (AA.map op2) (R.length + 1) M.length sy = rvOf (AA.map sp3) (pas L (AA.map sp3) 0 AA) (AA.map op2) M.length ((AA.map sp3).getD M.length (0, 0, 0)).2.2 0 sy ++ rvAll (AA.map sp3) (pas L (AA.map sp3) 0 AA) (AA.map op2) R.length (M.length + 1) (if ((AA.map op2).getD M.length (0, 0)).1 = 0 then sy.drop ((AA.map sp3).getD M.length (0, 0, 0)).2.2 else sy) := rfl
    show evR L pv (evOf s s.2.2.1 0 sy ++ evAll R (if s.2.2.2.2.2.2.1 = 0 then sy.drop s.2.2.1 else sy)) (rvAll (AA.map sp3) (pas L (AA.map sp3) 0 AA) (AA.map op2) (R.length + 1) M.length sy)
    rw [e1, a1, a2]
    exact this
end EVR
section AGE
variable {G G' : Gr} {T T' : Tr} {a : Nat} {P : List Nat} {oc : Option Nat} {ix : Nat}
theorem slt_eg (hG : G.ok) (a : Nat) : slt G a < (eGr G (slt G a) a).m ∧ (eGr G (slt G a) a).ag (slt G a) = a := by
  by_cases h : hasAg G a
  · obtain ⟨s, s1, s2⟩ := h
    rw [slt_has hG s1 s2]
    unfold eGr
    rw [if_pos s1]
    exact ⟨s1, s2⟩
  · rw [slt_no h]
    unfold eGr
    rw [if_neg (Nat.lt_irrefl _)]
    refine ⟨Nat.lt_succ_self _, ?_⟩
    show updN G.ag G.m a G.m = a
    unfold updN
    rw [if_pos rfl]
theorem eGr_ag {s t : Nat} (ht : t < G.m) : (eGr G s a).ag t = G.ag t := by
  unfold eGr
  split
  · rfl
  · show updN G.ag G.m a t = G.ag t
    unfold updN
    rw [if_neg (by omega)]
/-- the events of each agent, behind one more -/
theorem agE_stp (hG : G.ok) (h : StpE G T a P oc ix (slt G a) G' T') (b : Nat) : agE G' b = agE G b ++ if b = a then [G.n] else [] := by
  obtain ⟨e, e1, e2, e3, e4, e5, e6, e7, rfl, e8, -⟩ := h
  obtain ⟨s1, s2⟩ := slt_eg hG a
  have en := eGr_n G (slt G a) a
  unfold agE
  have e0 : ((eGr G (slt G a) a).push e (eGr G (slt G a) a).m (eGr G (slt G a) a).ag).n = G.n + 1 := by
    show (eGr G (slt G a) a).n + 1 = _
    rw [en.1]
  rw [e0, List.range_succ, List.filter_append]
  congr 1
  · refine List.filter_congr (fun k hk => ?_)
    have hk := List.mem_range.1 hk
    rw [Gr.push_old (by rw [en.1]; exact hk), en.2]
    show decide ((eGr G (slt G a) a).ag (G.ev k).sl = b) = _
    rw [eGr_ag (hG.sl1 k hk)]
  · have e9 : ((eGr G (slt G a) a).push e (eGr G (slt G a) a).m (eGr G (slt G a) a).ag).ev G.n = e := by
      have := Gr.push_new (G := eGr G (slt G a) a) (e := e) (m := (eGr G (slt G a) a).m) (ag := (eGr G (slt G a) a).ag)
      rw [en.1] at this
      exact this
    rw [List.filter_cons, e9, e1, List.filter_nil]
    show (if decide ((eGr G (slt G a) a).ag (slt G a) = b) = true then [G.n] else []) = _
    rw [s2]
    by_cases c : b = a
    · rw [if_pos c, if_pos (decide_eq_true c.symm)]
    · rw [if_neg c, if_neg (fun w => c (of_decide_eq_true w).symm)]
theorem lkE_iff {nu : Nat} : lkE G a nu = none ↔ (agE G a).length ≤ nu := List.getElem?_eq_none_iff
theorem lkE_stp (hG : G.ok) (h : StpE G T a P oc ix (slt G a) G' T') : lkE G' a (agE G a).length = some G.n := by
  unfold lkE
  rw [agE_stp hG h, if_pos rfl, List.getElem?_append_right (Nat.le_refl _), Nat.sub_self]; rfl
theorem lkA_lt : ∀ {PP : List (Nat × Nat)} {Q : List Nat}, lkA G PP = some Q → ∀ e, e ∈ Q → e < G.n
  | [], Q, h, e, he => by
    have h : some [] = some Q := h
    injection h with h
    rw [← h] at he; cases he
  | x :: PP, Q, h, e, he => by
    rw [lkA] at h
    cases h1 : lkE G x.1 x.2 with
    | none => rw [h1] at h; cases h
    | some e1 =>
      cases h2 : lkA G PP with
      | none => rw [h1, h2] at h; cases h
      | some Q2 =>
        rw [h1, h2] at h
        have h : some (e1 :: Q2) = some Q := h
        injection h with h
        rw [← h] at he
        rcases List.mem_cons.1 he with w | w
        · rw [w]; exact lkE_lt h1
        · exact lkA_lt h2 e w
/-- both runs go alike -/
theorem br_rv {L : List Nat} {G1 G2 : Gr} {T1 T2 : Tr} {f f2 : Nat} {kz2 : Nat → Nat} : ∀ {E : List Ev3} {E' : List Rv} {pv : Option (Nat × Nat)} {G : Gr} {T : Tr} {la : Option Nat} {kz : Nat → Nat}, evR L pv E E' → GT G T → (∀ u, pv = some u → la ≠ none ∧ la = lkE G u.1 u.2) → brR L E G T la G1 T1 f → rvX E' G T kz G2 T2 kz2 f2 → G1 = G2 ∧ T1 = T2 ∧ f = f2
  | [], [], pv, G, T, la, kz, hE, hG, hp, h1, h2 => ⟨h1.1.trans h2.1.symm, h1.2.1.trans h2.2.1.symm, h1.2.2.trans h2.2.2.2.symm⟩
  | [], y :: E', pv, G, T, la, kz, hE, hG, hp, h1, h2 => hE.elim
  | x :: E, [], pv, G, T, la, kz, hE, hG, hp, h1, h2 => hE.elim
  | x :: E, y :: E', pv, G, T, la, kz, hE, hG, hp, h1, h2 => by
    obtain ⟨y1, y2, y3, y4, y5, y6, hE⟩ := hE
    obtain ⟨G3, T3, la3, f3, hb, hb2⟩ := h1
    unfold beS at hb
    rw [← y1, ← y2, ← y3, ← y4] at hb
    rcases h2 with ⟨c1, c2⟩ | ⟨c1, G4, T4, f4, ⟨hv0, hv⟩, hv2⟩
    · rcases hb with ⟨e, k1, rfl, rfl, k4, rfl⟩ | ⟨k1, -⟩
      · have hb2 := (hb2.resolve_left (fun w => w.1 rfl)).2
        exact br_rv hE hG (fun u hu => by
          injection hu with hu
          subst hu
          rw [k4]
          exact ⟨(fun w => by cases w), k1.symm⟩) hb2 c2
      · have := lkE_iff.1 k1
        omega
    · rcases hb with ⟨e, k1, -⟩ | ⟨k1, hb⟩
      · have := lkE_iff.2 (Nat.le_of_not_lt c1)
        rw [k1] at this; cases this
      · have hle := lkE_iff.1 k1
        have hpar : skV G L la x.1 x.2.1 = lkA G y.2.2.2.1 := by
          unfold skV
          by_cases c : 0 < x.2.1 ∨ x.1.2.2.2.1 = 0
          · obtain ⟨u, u1, u2⟩ := y5 c
            obtain ⟨u3, u4⟩ := hp u u1
            rw [if_pos c, u2]
            show la.map (fun e => [e]) = (lkE G u.1 u.2).bind fun e => (lkA G []).map (e :: ·)
            rw [← u4]
            cases la <;> rfl
          · rw [if_neg c, y6 c, skF_rsv]
        have hbe : beO G L la x.1 x.2.1 = if (agE G y.1).length < y.2.1 then none else lkA G y.2.2.2.1 := by
          unfold beO
          rw [← y1, ← y2, hpar]
        have stop : ∀ {f9 : Nat}, f4 = f9 → f9 ≠ 0 → G = G2 ∧ T = T2 ∧ f9 = f2 := fun {f9} e1 e2 => by
          subst e1
          rcases hv with ⟨-, q1, q2⟩ | ⟨q1, -⟩
          · rcases hv2 with ⟨-, r1, r2, r3, -⟩ | ⟨r1, -⟩
            · exact ⟨(r2.trans q1).symm, (r3.trans q2).symm, r1.symm⟩
            · exact absurd r1 e2
          · exact absurd q1 e2
        rcases hb with ⟨k2, rfl, rfl, rfl⟩ | ⟨Q, k2, hb⟩
        · obtain ⟨-, rfl, rfl, rfl⟩ := hb2.resolve_right (fun w => by cases w.1)
          refine stop ?_ (by decide)
          rw [hv0]
          by_cases c : (agE G1 y.1).length < y.2.1
          · exact nc_eV1 c
          · rw [hbe, if_neg c] at k2
            exact nc_eV2 c k2
        · have cn : ¬ (agE G y.1).length < y.2.1 := fun w => by rw [hbe, if_pos w] at k2; cases k2
          rw [hbe, if_neg cn] at k2
          have hn : y.2.1 = (agE G y.1).length := by omega
          have ef : f4 = fltV G y.1 y.2.1 y.2.2.1 Q (y.2.2.2.2 ≠ none) := by rw [hv0, nc_eV3 cn k2]
          rcases hb with ⟨k3, rfl, rfl, rfl⟩ | ⟨k3, k4, hb⟩
          · obtain ⟨-, rfl, rfl, rfl⟩ := hb2.resolve_right (fun w => by cases w.1)
            refine stop ?_ (by decide)
            rw [ef]
            refine flt_6a (Classical.byContradiction (fun w => ?_))
            have := rel_len hG.1 w (lkA_lt k2)
            omega
          · rcases hb with ⟨n1, rfl, rfl⟩ | ⟨rfl, n2, n3⟩
            · obtain ⟨-, rfl, rfl, rfl⟩ := hb2.resolve_right (fun w => n1 w.1)
              exact stop (ef.trans k4.symm) n1
            · have hb2 := (hb2.resolve_left (fun w => w.1 rfl)).2
              have f40 : f4 = 0 := ef.trans k4.symm
              rcases hv with ⟨q1, -⟩ | ⟨-, Q', q2, q3, q4⟩
              · exact absurd f40 q1
              · rw [k2] at q2
                injection q2 with q2
                subst q2
                obtain ⟨rfl, rfl⟩ := n2.uniq q4
                rcases hv2 with ⟨r1, -⟩ | ⟨-, r2⟩
                · exact absurd f40 r1
                · have hG3 : GT G3 T3 := by
                    obtain ⟨e, e1, e2, e3, e4, e5, e6, e7, e8, e9, -⟩ := n2
                    exact e9
                  refine br_rv hE hG3 (fun u hu => ?_) hb2 r2
                  injection hu with hu
                  subst hu
                  rw [n3]
                  refine ⟨(fun w => by cases w), ?_⟩
                  show some G.n = lkE G3 y.1 y.2.1
                  rw [hn]
                  exact (lkE_stp hG.1 n2).symm
end AGE
