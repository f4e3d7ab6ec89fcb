/-! ===== Budgets: what a run of events costs ===== -/
section BUD
variable {L : List Nat}
theorem flt_tot {G : Gr} {T : Tr} (hg : GT G T) {a nu x : Nat} {Q : List Nat} {oc : Option Nat} (h : fltV G a nu x Q (oc ≠ none) = 0) (hn : nu = (agE G a).length) (ha : a < 256) (hQ : Q.length ≤ 16) (hl : ∀ p, p ∈ Q → p < G.n) (hc : ∀ c, oc = some c → c < 2000000) : ∃ G' T', StpE G T a Q oc x (slt G a) G' T' ∧ OwSl G a (slt G a) := by
  have hE := flt_enp hg.1 h hn ha hQ hl hc
  obtain ⟨G', T', st⟩ := EnP.tot hg hE
  exact ⟨G', T', st, hE.2.2.2.2.2.2.1⟩
/-- the class brings events: a run there is, and what it costs -/
theorem br_tot : ∀ {E : List Ev3} {G : Gr} {T : Tr} {la : Option Nat}, GT G T → (∀ x, x ∈ E → x.1.1 < 256 ∧ ∀ c, x.2.2 = some c → c < 2000000) → (∀ e, la = some e → e < G.n) → ∃ G' T' f, brR L E G T la G' T' f ∧ brK L E G T la (gcC G' - gcC G) (gcZ G' - gcZ G) ∧ gcC G ≤ gcC G' ∧ gcZ G ≤ gcZ G'
  | [], G, T, la, hg, hE, hla => ⟨G, T, 0, ⟨rfl, rfl, rfl⟩, trivial, Nat.le_refl _, Nat.le_refl _⟩
  | x :: E, G, T, la, hg, hE, hla => by
    obtain ⟨e1, e2⟩ := hE x List.mem_cons_self
    have hE' : ∀ x, x ∈ E → x.1.1 < 256 ∧ ∀ c, x.2.2 = some c → c < 2000000 := fun y hy => hE y (List.mem_cons_of_mem _ hy)
    have noN : ¬ beN G L la x.1 x.2.1 x.2.2 → nc_bC G L la x.1 x.2.1 x.2.2 = 0 ∧ nc_bZ G L la x.1 x.2.1 x.2.2 = 0 := fun w => ⟨ift_f w, ift_f w⟩
    cases hk : lkE G x.1.1 (x.1.2.1 + x.2.1) with
    | some e =>
      have nb : ¬ beN G L la x.1 x.2.1 x.2.2 := fun w => by
        have w := w.1
        rw [hk] at w; cases w
      obtain ⟨G', T', f, r1, r2, r3, r4⟩ := br_tot (E := E) (G := G) (T := T) (la := some e) hg hE' (fun e' he => by
        injection he with he
        rw [← he]; exact lkE_lt hk)
      refine ⟨G', T', f, ⟨G, T, some e, 0, Or.inl ⟨e, hk, rfl, rfl, rfl, rfl⟩, Or.inr ⟨rfl, r1⟩⟩, ⟨by rw [(noN nb).1]; exact Nat.zero_le _, by rw [(noN nb).2]; exact Nat.zero_le _, fun G1 T1 la1 hb => ?_⟩, r3, r4⟩
      rw [(noN nb).1, (noN nb).2, Nat.sub_zero, Nat.sub_zero]
      rcases hb with ⟨e', k1, rfl, rfl, rfl, -⟩ | ⟨k1, -⟩
      · rw [hk] at k1
        injection k1 with k1
        rw [← k1]; exact r2
      · rw [hk] at k1; cases k1
    | none =>
      cases hQ : beO G L la x.1 x.2.1 with
      | none =>
        have nb : ¬ beN G L la x.1 x.2.1 x.2.2 := fun w => by
          obtain ⟨-, Q, w, -⟩ := w
          rw [hQ] at w; cases w
        refine ⟨G, T, 5, ⟨G, T, none, 5, Or.inr ⟨hk, Or.inl ⟨hQ, rfl, rfl, rfl⟩⟩, Or.inl ⟨(by decide), rfl, rfl, rfl⟩⟩, ⟨by rw [(noN nb).1]; exact Nat.zero_le _, by rw [(noN nb).2]; exact Nat.zero_le _, fun G1 T1 la1 hb => ?_⟩, Nat.le_refl _, Nat.le_refl _⟩
        rcases hb with ⟨e', k1, -⟩ | ⟨-, ⟨-, w, -⟩ | ⟨Q, w, -⟩⟩
        · rw [hk] at k1; cases k1
        · cases w
        · rw [hQ] at w; cases w
      | some Q =>
        have hQl : ∀ p, p ∈ Q → p < G.n := by
          unfold beO at hQ
          split at hQ
          · cases hQ
          · unfold skV at hQ
            split at hQ
            · cases hla2 : la with
              | none => rw [hla2] at hQ; cases hQ
              | some e =>
                rw [hla2] at hQ
                have hQ : some [e] = some Q := hQ
                injection hQ with hQ
                rw [← hQ]
                intro p hp
                rw [List.mem_singleton.1 hp]
                exact hla e hla2
            · exact (skF_all hQ).2
        have hnu : (agE G x.1.1).length = x.1.2.1 + x.2.1 := by
          have h1 := lkE_iff.1 hk
          unfold beO at hQ
          by_cases c : (agE G x.1.1).length < x.1.2.1 + x.2.1
          · rw [if_pos c] at hQ; cases hQ
          · omega
        by_cases hl : Q.length ≤ 16
        · by_cases hf : fltV G x.1.1 (x.1.2.1 + x.2.1) (thI x.1 x.2.1).toNat Q (x.2.2 ≠ none) = 0
          · have isN : beN G L la x.1 x.2.1 x.2.2 := ⟨hk, Q, hQ, hl, hf⟩
            have c1 : nc_bC G L la x.1 x.2.1 x.2.2 = enC G (slt G x.1.1) := ift_t isN
            have c2 : nc_bZ G L la x.1 x.2.1 x.2.2 = enZ G (slt G x.1.1) := ift_t isN
            obtain ⟨G1, T1, st, os⟩ := flt_tot hg hf hnu.symm e1 hl hQl e2
            obtain ⟨p1, p2, -, -⟩ := st.pot os hg.1
            obtain ⟨G', T', f, r1, r2, r3, r4⟩ := br_tot (E := E) (G := G1) (T := T1) (la := some G.n) st.gt hE' (fun e' he => by
              injection he with he
              rw [← he, st.cnt1]; exact Nat.lt_succ_self _)
            refine ⟨G', T', f, ⟨G1, T1, some G.n, 0, Or.inr ⟨hk, Or.inr ⟨Q, hQ, Or.inr ⟨hl, hf.symm, Or.inr ⟨rfl, st, rfl⟩⟩⟩⟩, Or.inr ⟨rfl, r1⟩⟩, ⟨by rw [c1]; omega, by rw [c2]; omega, fun G2 T2 la2 hb => ?_⟩, by omega, by omega⟩
            rw [c1, c2]
            rcases hb with ⟨e', k1, -⟩ | ⟨-, ⟨w, -⟩ | ⟨Q', w, hb⟩⟩
            · rw [hk] at k1; cases k1
            · rw [hQ] at w; cases w
            · rw [hQ] at w
              injection w with w
              subst w
              rcases hb with ⟨w, -⟩ | ⟨-, -, ⟨w, -⟩ | ⟨-, st2, rfl⟩⟩
              · omega
              · exact absurd rfl w
              · obtain ⟨rfl, rfl⟩ := st.uniq st2
                rw [show gcC G' - gcC G - enC G (slt G x.1.1) = gcC G' - gcC G1 by omega, show gcZ G' - gcZ G - enZ G (slt G x.1.1) = gcZ G' - gcZ G1 by omega]
                exact r2
          · have nb : ¬ beN G L la x.1 x.2.1 x.2.2 := fun w => by
              obtain ⟨-, Q', w, -, w2⟩ := w
              rw [hQ] at w
              injection w with w
              subst w
              exact hf w2
            refine ⟨G, T, _, ⟨G, T, none, _, Or.inr ⟨hk, Or.inr ⟨Q, hQ, Or.inr ⟨hl, rfl, Or.inl ⟨hf, rfl, rfl⟩⟩⟩⟩, Or.inl ⟨hf, rfl, rfl, rfl⟩⟩, ⟨by rw [(noN nb).1]; exact Nat.zero_le _, by rw [(noN nb).2]; exact Nat.zero_le _, fun G1 T1 la1 hb => ?_⟩, Nat.le_refl _, Nat.le_refl _⟩
            rcases hb with ⟨e', k1, -⟩ | ⟨-, ⟨w, -⟩ | ⟨Q', w, hb⟩⟩
            · rw [hk] at k1; cases k1
            · rw [hQ] at w; cases w
            · rw [hQ] at w
              injection w with w
              subst w
              rcases hb with ⟨w, -⟩ | ⟨-, w, -⟩
              · omega
              · exact absurd w.symm hf
        · have nb : ¬ beN G L la x.1 x.2.1 x.2.2 := fun w => by
            obtain ⟨-, Q', w, w2, -⟩ := w
            rw [hQ] at w
            injection w with w
            subst w
            exact hl w2
          refine ⟨G, T, 6, ⟨G, T, none, 6, Or.inr ⟨hk, Or.inr ⟨Q, hQ, Or.inl ⟨by omega, rfl, rfl, rfl⟩⟩⟩, Or.inl ⟨(by decide), rfl, rfl, rfl⟩⟩, ⟨by rw [(noN nb).1]; exact Nat.zero_le _, by rw [(noN nb).2]; exact Nat.zero_le _, fun G1 T1 la1 hb => ?_⟩, Nat.le_refl _, Nat.le_refl _⟩
          rcases hb with ⟨e', k1, -⟩ | ⟨-, ⟨w, -⟩ | ⟨Q', w, hb⟩⟩
          · rw [hk] at k1; cases k1
          · rw [hQ] at w; cases w
          · rw [hQ] at w
            injection w with w
            subst w
            rcases hb with ⟨-, w, -⟩ | ⟨w, -⟩
            · cases w
            · exact absurd w hl
/-- one way only -/
theorem brR.uq {G1 G2 : Gr} {T1 T2 : Tr} {f1 f2 : Nat} : ∀ {E : List Ev3} {G : Gr} {T : Tr} {la : Option Nat}, brR L E G T la G1 T1 f1 → brR L E G T la G2 T2 f2 → G1 = G2 ∧ T1 = T2 ∧ f1 = f2
  | [], G, T, la, h1, h2 => ⟨h1.1.trans h2.1.symm, h1.2.1.trans h2.2.1.symm, h1.2.2.trans h2.2.2.symm⟩
  | x :: E, G, T, la, h1, h2 => by
    obtain ⟨Ga, Ta, la1, fa, a1, a2⟩ := h1
    obtain ⟨Gb, Tb, lb1, fb, b1, b2⟩ := h2
    have key : fa = fb ∧ Ga = Gb ∧ Ta = Tb ∧ (fa = 0 → la1 = lb1) := by
      rcases a1 with ⟨e, k1, rfl, rfl, rfl, rfl⟩ | ⟨k1, ⟨k2, rfl, rfl, rfl⟩ | ⟨Q, k2, ⟨k3, rfl, rfl, rfl⟩ | ⟨k3, k4, ⟨k5, rfl, rfl⟩ | ⟨k5, k6, rfl⟩⟩⟩⟩ <;> rcases b1 with ⟨e', l1, rfl, rfl, rfl, rfl⟩ | ⟨l1, ⟨l2, rfl, rfl, rfl⟩ | ⟨Q', l2, ⟨l3, rfl, rfl, rfl⟩ | ⟨l3, l4, ⟨l5, rfl, rfl⟩ | ⟨l5, l6, rfl⟩⟩⟩⟩
      any_goals (rw [k1] at l1; cases l1; done)
      any_goals (rw [k2] at l2; cases l2; done)
      · rw [k1] at l1
        injection l1 with l1
        exact ⟨rfl, rfl, rfl, fun _ => by rw [l1]⟩
      · exact ⟨rfl, rfl, rfl, fun w => by cases w⟩
      · exact ⟨rfl, rfl, rfl, fun w => by cases w⟩
      · rw [k2] at l2; injection l2 with l2; subst l2; omega
      · rw [k2] at l2; injection l2 with l2; subst l2; omega
      · rw [k2] at l2; injection l2 with l2; subst l2; omega
      · rw [k2] at l2; injection l2 with l2; subst l2
        exact ⟨k4.trans l4.symm, rfl, rfl, fun w => absurd w k5⟩
      · rw [k2] at l2; injection l2 with l2; subst l2
        exact absurd (k4.trans (l4.symm.trans l5)) k5
      · rw [k2] at l2; injection l2 with l2; subst l2; omega
      · rw [k2] at l2; injection l2 with l2; subst l2
        exact absurd (l4.trans (k4.symm.trans k5)) l5
      · rw [k2] at l2; injection l2 with l2; subst l2
        obtain ⟨rfl, rfl⟩ := k6.uniq l6
        exact ⟨k5.trans l5.symm, rfl, rfl, fun _ => rfl⟩
    obtain ⟨rfl, rfl, rfl, k4⟩ := key
    rcases a2 with ⟨q1, rfl, rfl, rfl⟩ | ⟨q1, a2⟩ <;> rcases b2 with ⟨q2, rfl, rfl, rfl⟩ | ⟨q2, b2⟩
    · exact ⟨rfl, rfl, rfl⟩
    · exact absurd q2 q1
    · exact absurd q1 q2
    · rw [k4 q1] at a2
      exact brR.uq a2 b2
/-- the reference's run, and what it costs -/
theorem ev_tot {G : Gr} {T : Tr} (hg : GT G T) {x : Rv} (ha : x.1 < 256) (hc : ∀ c, x.2.2.2.2 = some c → c < 2000000) (hk : ¬ x.2.1 < (agE G x.1).length) : ∃ G1 T1 f1, evX G T x.1 x.2.1 x.2.2.1 x.2.2.2.1 x.2.2.2.2 G1 T1 f1 ∧ ((f1 ≠ 0 ∧ G1 = G) ∨ (f1 = 0 ∧ GT G1 T1 ∧ grC G1 = grC G + ad1 G (slt G x.1) ∧ grZ G1 = grZ G + ad2 G (slt G x.1))) := by
  by_cases h0 : nc_eV G x.1 x.2.1 x.2.2.1 x.2.2.2.1 (x.2.2.2.2 ≠ none) = 0
  · have h1 := h0
    unfold nc_eV at h1
    by_cases c : (agE G x.1).length < x.2.1
    · rw [if_pos c] at h1; cases h1
    · rw [if_neg c] at h1
      cases hQ : lkA G x.2.2.2.1 with
      | none => rw [hQ] at h1; cases h1
      | some Q =>
        rw [hQ] at h1
        have h1 : fltV G x.1 x.2.1 x.2.2.1 Q (x.2.2.2.2 ≠ none) = 0 := h1
        have hl := lkA_lt hQ
        have h16 : Q.length ≤ 16 := rel_len hg.1 (flt0 h1).1 hl
        obtain ⟨G1, T1, st, os⟩ := flt_tot hg h1 (by omega) ha h16 hl hc
        obtain ⟨-, -, p3, p4⟩ := st.pot os hg.1
        exact ⟨G1, T1, 0, ⟨h0.symm, Or.inr ⟨rfl, Q, hQ, h16, st⟩⟩, Or.inr ⟨rfl, st.gt, p3, p4⟩⟩
  · exact ⟨G, T, _, ⟨rfl, Or.inl ⟨h0, rfl, rfl⟩⟩, Or.inl ⟨h0, rfl⟩⟩
theorem evX.uq {G G1 G2 : Gr} {T T1 T2 : Tr} {a nu ix f1 f2 : Nat} {PP : List (Nat × Nat)} {oc : Option Nat} (h1 : evX G T a nu ix PP oc G1 T1 f1) (h2 : evX G T a nu ix PP oc G2 T2 f2) : G1 = G2 ∧ T1 = T2 ∧ f1 = f2 := by
  obtain ⟨a1, a2⟩ := h1
  obtain ⟨b1, b2⟩ := h2
  have e : f1 = f2 := a1.trans b1.symm
  subst e
  rcases a2 with ⟨a2, rfl, rfl⟩ | ⟨a2, Q, a3, a4, a5⟩ <;> rcases b2 with ⟨b2, rfl, rfl⟩ | ⟨b2, Q', b3, b4, b5⟩
  · exact ⟨rfl, rfl, rfl⟩
  · exact absurd b2 a2
  · exact absurd a2 b2
  · rw [a3] at b3
    injection b3 with b3
    subst b3
    obtain ⟨rfl, rfl⟩ := a5.uniq b5
    exact ⟨rfl, rfl, rfl⟩
theorem evZ_d (kz : Nat → Nat) (G : Gr) (a nu m : Nat) : kz 24 + evC1 kz G a nu m ≤ evZ kz G a nu m 24 ∧ 2 * kz 24 + evC2 kz G a nu m ≤ 2 * evZ kz G a nu m 24 := by
  unfold evZ evC1 evC2
  split
  · rw [upF_s]
    omega
  · omega
theorem rvK_mono : ∀ {E : List Rv} {G : Gr} {T : Tr} {kz : Nat → Nat} {C Z C' Z' : Nat}, rvK E G T kz C Z → C ≤ C' → Z ≤ Z' → rvK E G T kz C' Z'
  | [], G, T, kz, C, Z, C', Z', h, h1, h2 => trivial
  | x :: E, G, T, kz, C, Z, C', Z', h, h1, h2 => ⟨fun w => rvK_mono (h.1 w) h1 h2, fun w => ⟨Nat.le_trans (h.2 w).1 h1, Nat.le_trans (h.2 w).2.1 h2, fun G1 T1 q => rvK_mono ((h.2 w).2.2 G1 T1 q) (Nat.sub_le_sub_right h1 _) (Nat.sub_le_sub_right h2 _)⟩⟩
theorem rv_tot {E : List Rv} : ∀ {G : Gr} {T : Tr} {kz : Nat → Nat}, GT G T → (∀ x, x ∈ E → x.1 < 256 ∧ ∀ c, x.2.2.2.2 = some c → c < 2000000) → ∃ G' T' kz' f, rvX E G T kz G' T' kz' f ∧ rvK E G T kz (grC G' - grC G + (kz' 24 - kz 24)) (grZ G' - grZ G + 2 * (kz' 24 - kz 24)) ∧ grC G ≤ grC G' ∧ grZ G ≤ grZ G' ∧ kz 24 ≤ kz' 24 := by
  induction E with
  | nil => exact fun {G T kz} hg hE => ⟨G, T, kz, 0, ⟨rfl, rfl, rfl, rfl⟩, trivial, Nat.le_refl _, Nat.le_refl _, Nat.le_refl _⟩
  | cons x E ih =>
    intro G T kz hg hE
    obtain ⟨e1, e2⟩ := hE x List.mem_cons_self
    have hE' : ∀ x, x ∈ E → x.1 < 256 ∧ ∀ c, x.2.2.2.2 = some c → c < 2000000 := fun y hy => hE y (List.mem_cons_of_mem _ hy)
    by_cases hk : x.2.1 < (agE G x.1).length
    · obtain ⟨G', T', kz', f, r1, r2, r3, r4, r5⟩ := ih (kz := kz) hg hE'
      exact ⟨G', T', kz', f, Or.inl ⟨hk, r1⟩, ⟨fun _ => r2, fun w => absurd hk w⟩, r3, r4, r5⟩
    · obtain ⟨d1, d2⟩ := evZ_d kz G x.1 x.2.1 x.2.2.2.1.length
      obtain ⟨G1, T1, f1, v1, v2⟩ := ev_tot hg e1 e2 hk
      rcases v2 with ⟨v2, rfl⟩ | ⟨rfl, v3, v4, v5⟩
      · have ne : ¬ nc_eV G1 x.1 x.2.1 x.2.2.1 x.2.2.2.1 (x.2.2.2.2 ≠ none) = 0 := fun w => v2 (v1.1.trans w)
        have c1 : nc_e1 kz G1 x.1 x.2.1 x.2.2.1 x.2.2.2.1 x.2.2.2.2 = evC1 kz G1 x.1 x.2.1 x.2.2.2.1.length := by
          unfold nc_e1
          rw [ift_f ne]; rfl
        have c2 : nc_e2 kz G1 x.1 x.2.1 x.2.2.1 x.2.2.2.1 x.2.2.2.2 = evC2 kz G1 x.1 x.2.1 x.2.2.2.1.length := by
          unfold nc_e2
          rw [ift_f ne]; rfl
        refine ⟨G1, T1, _, f1, Or.inr ⟨hk, G1, T1, f1, v1, Or.inl ⟨v2, rfl, rfl, rfl, rfl⟩⟩, ⟨fun w => absurd w hk, fun _ => ⟨by rw [c1]; omega, by rw [c2]; omega, fun G2 T2 w => ?_⟩⟩, Nat.le_refl _, Nat.le_refl _, by omega⟩
        exact absurd (v1.uq w).2.2 v2
      · have ez : nc_eV G x.1 x.2.1 x.2.2.1 x.2.2.2.1 (x.2.2.2.2 ≠ none) = 0 := v1.1.symm
        have c1 : nc_e1 kz G x.1 x.2.1 x.2.2.1 x.2.2.2.1 x.2.2.2.2 = evC1 kz G x.1 x.2.1 x.2.2.2.1.length + ad1 G (slt G x.1) := by
          unfold nc_e1
          rw [ift_t ez]
        have c2 : nc_e2 kz G x.1 x.2.1 x.2.2.1 x.2.2.2.1 x.2.2.2.2 = evC2 kz G x.1 x.2.1 x.2.2.2.1.length + ad2 G (slt G x.1) := by
          unfold nc_e2
          rw [ift_t ez]
        obtain ⟨G', T', kz', f, r1, r2, r3, r4, r5⟩ := ih (G := G1) (T := T1) (kz := evZ kz G x.1 x.2.1 x.2.2.2.1.length) v3 hE'
        refine ⟨G', T', kz', f, Or.inr ⟨hk, G1, T1, 0, v1, Or.inr ⟨rfl, r1⟩⟩, ⟨fun w => absurd w hk, fun _ => ⟨by rw [c1]; omega, by rw [c2]; omega, fun G2 T2 w => ?_⟩⟩, by omega, by omega, by omega⟩
        obtain ⟨rfl, rfl, -⟩ := v1.uq w
        exact rvK_mono r2 (by rw [c1]; omega) (by rw [c2]; omega)
end BUD
