/-! ===== WeaveText.<init> ===== -/
def xr (k : Nat) : Nat × Nat × Nat := match k with
  | 2 => (22, 8, 2)
  | 3 => (24, 4, 3)
  | 8 => (17, 8, 4)
  | 9 => (17, 8, 5)
  | 10 => (17, 64, 6)
  | 13 => (17, 8, 7)
  | _ => (23, 8, 8)
def xi (k : Nat) : Nat := if k = 18 then 1211 else 1190 + k
theorem xi_inj {i k : Nat} (h1 : i < 20) (h2 : k < 20) (e : xi i = xi k) : i = k := by unfold xi at e; split at e <;> split at e <;> omega
def kz0 (k : Nat) : Nat := if 30 ≤ k ∧ k < 34 then 0 else 64
/-- an object being made: the things of D are there, js of the slots, jp of the peers -/
def wX (S : MM) (F : Nat → Nat × Nat) (t : Nat) (D : List Nat) (js jp : Nat) (S1 : MM) (F1 : Nat → Nat × Nat) (z : Nat → Nat) : Prop :=
  (isO S1 12 t ∧ F1 t = (20, 1)) ∧ (∀ k, k ∈ D → k < 15 → k ≠ 6 → mR S1 (1200 + k) t = some (z k)) ∧ (∀ k, k ∈ D → k ∈ [2, 3, 8, 9, 10, 13, 14] → isO S1 (xr k).1 (z k) ∧ mN S1 (z k) = (xr k).2.1 ∧ F1 (z k) = (20, (xr k).2.2)) ∧ (0 ∈ D → Bt S1 F1 21 (z 0) (z 60) [] 64) ∧ (1 ∈ D → Bt S1 F1 22 (z 1) (z 61) [] 64) ∧ (12 ∈ D → HuR S1 F1 25 (z 12) (z 66) 64 [] 0 0 0 0) ∧ (∀ k, k < js → eR S1 (z 2) k = some (z (20 + k)) ∧ Bt S1 F1 (50 + k) (z (20 + k)) (z (70 + k)) [] 64) ∧ (∀ p, p < jp → eR S1 (z 3) p = some (z (30 + p)) ∧ ∃ X, PeX S1 F1 p (z (30 + p)) X e0 T0 [] (fun _ _ => 0) 0) ∧ (6 ∈ D → 4 ∉ D → PkF S1 F1 23 (z 6) (z 62) (z 63) (z 64) ∧ F1 (z 6) = (23, 4) ∧ Col S1 F1 23 5 (z 62) (z 65) [] 64 ∧ mN S1 (z 64) = 64) ∧ (4 ∈ D → Wk S1 F1 (z 4) (z 6) kz0) ∧ (5 ∈ D → Rk S1 F1 (z 5) (z 6)) ∧ (∀ k, k ∈ D → 15 < k → mI S1 (xi k) t = 0) ∧ FO S1 F1 ∧ (∀ c, c ∈ mL S → c ≠ t → F1 c = F c) ∧ Keep (fun c => c = t) S S1 ∧ (0 < js → 2 ∈ D) ∧ (0 < jp → 3 ∈ D) ∧ (4 ∈ D → 6 ∈ D) ∧ (5 ∈ D → 6 ∈ D) ∧ js ≤ 8 ∧ jp ≤ 4 ∧ ∀ i, i ∈ D → i < 20
def xiP (S S' : MM) (F : Nat → Nat × Nat) (t : Nat) : Prop := ∃ F' X, WT S' F' t X kz0 ((fun _ => e0), (fun _ => T0), (fun _ => []), (fun _ _ _ => 0), [], (fun _ => []), 0, 0, (fun _ => none), (fun _ => 0), [], [], (fun _ => none), (fun _ => none)) ∧ (∀ c, c ∈ mL S → c ≠ t → F' c = F c) ∧ Keep (fun c => c = t) S S'
section WX
variable {S S1 S2 : MM} {F F1 F2 : Nat → Nat × Nat} {t js jp : Nat} {D : List Nat} {z z2 : Nat → Nat}
theorem wX.lim (h : wX S F t D js jp S1 F1 z) : js ≤ 8 ∧ jp ≤ 4 ∧ ∀ i, i ∈ D → i < 20 := h.2.2.2.2.2.2.2.2.2.2.2.2.2.2.2.2.2.2.2
theorem wX.fo (h : wX S F t D js jp S1 F1 z) : FO S1 F1 := h.2.2.2.2.2.2.2.2.2.2.2.2.1
theorem wX.kt (h : wX S F t D js jp S1 F1 z) : Keep (fun c => c = t) S S1 := h.2.2.2.2.2.2.2.2.2.2.2.2.2.2.1
theorem wX.mv (h : wX S F t D js jp S1 F1 z) (hk : Keep (fun b => (F1 b).1 = 20) S1 S2) (hkt : Keep (fun b => b = t) S S2) (hR : ∀ k, k ∈ D → k < 15 → k ≠ 6 → mR S2 (1200 + k) t = mR S1 (1200 + k) t) (hI : ∀ k, k ∈ D → 15 < k → mI S2 (xi k) t = mI S1 (xi k) t) (h2 : ∀ k, k < js → eR S2 (z 2) k = eR S1 (z 2) k) (h3 : ∀ k, k < jp → eR S2 (z 3) k = eR S1 (z 3) k) (hf : ∀ b, b ∈ mL S1 → F2 b = F1 b) (hFO : FO S2 F2) (hz1 : ∀ i, i ∈ D → z2 i = z i) (hz2 : ∀ i, i < js → z2 (20 + i) = z (20 + i) ∧ z2 (70 + i) = z (70 + i)) (hz3 : ∀ i, i < jp → z2 (30 + i) = z (30 + i)) (hz4 : 0 ∈ D → z2 60 = z 60) (hz5 : 1 ∈ D → z2 61 = z 61) (hz6 : 12 ∈ D → z2 66 = z 66) (hz7 : 6 ∈ D → z2 62 = z 62 ∧ z2 63 = z 63 ∧ z2 64 = z 64 ∧ z2 65 = z 65) : wX S F t D js jp S2 F2 z2 := by
  obtain ⟨⟨a1, a2⟩, a3, a4, a5, a6, a7, a8, a9, a10, a11, a12, a13, a14, a15, a16, a17, a18, a19, a20, a21, a22, a23⟩ := h
  have q : ∀ {o : Nat}, o ≠ 20 → ∀ b, (F1 b).1 = o → ¬ (F1 b).1 = 20 := fun {o} ho b e w => ho (e ▸ w)
  refine ⟨⟨hk.isO a1, (hf t a1.1).trans a2⟩, fun k k1 k2 k3 => ?_, fun k k1 k2 => ?_, fun k1 => ?_, fun k1 => ?_, fun k1 => ?_, fun k k1 => ?_, fun p p1 => ?_, fun k1 k2 => ?_, fun k1 => ?_, fun k1 => ?_, fun k k1 k2 => ?_, hFO, fun c hc hct => (hf c (a16.1 c hc).1).trans (a15 c hc hct), hkt, a17, a18, a19, a20, a21, a22, a23⟩
  · rw [hR k k1 k2 k3, hz1 k k1]; exact a3 k k1 k2 k3
  · rw [hz1 k k1]
    obtain ⟨b1, b2, b3⟩ := a4 k k1 k2
    exact row_keep b1 b2 b3 hk hf
  · rw [hz1 0 k1, hz4 k1]; exact (a5 k1).keep hk (q (by decide)) hf
  · rw [hz1 1 k1, hz5 k1]; exact (a6 k1).keep hk (q (by decide)) hf
  · rw [hz1 12 k1, hz6 k1]; exact (a7 k1).kp hk (q (by decide)) hf hFO
  · rw [hz1 2 (a17 (by omega)), (hz2 k k1).1, (hz2 k k1).2, h2 k k1]
    exact ⟨(a8 k k1).1, (a8 k k1).2.keep hk (q (by omega)) hf⟩
  · rw [hz1 3 (a18 (by omega)), hz3 p p1, h3 p p1]
    obtain ⟨b1, X, A, H, W, r, a, d, ea, kn, kr, cu, hp⟩ := a9 p p1
    exact ⟨b1, X, A, H, W, r, a, d, ea, kn, kr, cu, hp.keep hk (fun b e => e.elim (q (by omega) b) (fun e => e.elim (q (by omega) b) (q (by omega) b))) hf hFO⟩
  · obtain ⟨b1, b2, b3, b4⟩ := a10 k1 k2
    obtain ⟨e1, e2, e3, e4⟩ := hz7 k1
    rw [hz1 6 k1, e1, e2, e3, e4]
    have n := q (o := 23) (by decide)
    exact ⟨b1.keep hk (n _ (by rw [b2])) hf, (hf _ b1.1.1.1).trans b2, b3.keep hk (n _ (by rw [b3.2.1])) (n _ (by rw [b3.2.2.1])) hf, (hk.1 _ b1.1.2.2.2.2.2.2.1.1).2.2.trans b4⟩
  · rw [hz1 4 k1, hz1 6 (a19 k1)]
    obtain ⟨pl, me, a, d, V, cap, hp, hn, ho⟩ := a11 k1
    exact ⟨pl, me, a, d, V, cap, hp.keep hk (q (by decide)) hf hFO, fun k hk9 => (hk.1 (d k) (hp.2.2.2.2.2.2.2.2.2.1 k hk9).1.2.2.1.1).2.2.trans (hn k hk9), (hk.1 (a 7) hp.2.2.2.2.2.2.2.2.2.2.2.2.1.2.2.2.2.2.2.1.1).2.2.trans ho⟩
  · rw [hz1 5 k1, hz1 6 (a20 k1)]
    obtain ⟨cu, ids, fnd, hr⟩ := a12 k1
    exact ⟨cu, ids, fnd, hr.kp hk (q (by decide)) hf⟩
  · rw [hI k k1 k2]; exact a13 k k1 k2
theorem wX.up (h : wX S F t D js jp S1 F1 z) {k : Nat} (k60 : k < 20) (n0 : k < 15 → k ≠ 6 → mR S1 (1200 + k) t = some (z k)) (n1 : k ∈ [2, 3, 8, 9, 10, 13, 14] → isO S1 (xr k).1 (z k) ∧ mN S1 (z k) = (xr k).2.1 ∧ F1 (z k) = (20, (xr k).2.2)) (n2 : k = 0 → Bt S1 F1 21 (z 0) (z 60) [] 64) (n3 : k = 1 → Bt S1 F1 22 (z 1) (z 61) [] 64) (n4 : k = 12 → HuR S1 F1 25 (z 12) (z 66) 64 [] 0 0 0 0) (n5 : k = 6 → PkF S1 F1 23 (z 6) (z 62) (z 63) (z 64) ∧ F1 (z 6) = (23, 4) ∧ Col S1 F1 23 5 (z 62) (z 65) [] 64 ∧ mN S1 (z 64) = 64) (n6 : k = 4 → 6 ∈ D ∧ Wk S1 F1 (z 4) (z 6) kz0) (n7 : k = 5 → 6 ∈ D ∧ Rk S1 F1 (z 5) (z 6)) (n8 : 15 < k → mI S1 (xi k) t = 0) : wX S F t (k :: D) js jp S1 F1 z := by
  obtain ⟨a1, a3, a4, a5, a6, a7, a8, a9, a10, a11, a12, a13, a14, a15, a16, a17, a18, a19, a20, a21, a22, a23⟩ := h
  have m : ∀ {i}, i ∈ k :: D → i = k ∨ i ∈ D := fun hi => List.mem_cons.1 hi
  refine ⟨a1, fun i h1 h2 h3 => ?_, fun i h1 h2 => ?_, fun h1 => ?_, fun h1 => ?_, fun h1 => ?_, a8, a9, fun h1 h2 => ?_, fun h1 => ?_, fun h1 => ?_, fun i h1 h2 => ?_, a14, a15, a16, fun w => List.mem_cons_of_mem _ (a17 w), fun w => List.mem_cons_of_mem _ (a18 w), fun w => ?_, fun w => ?_, a21, a22, fun i hi => (m hi).elim (fun e => by rw [e]; exact k60) (a23 i)⟩
  · rcases m h1 with e | e
    · subst e; exact n0 h2 h3
    · exact a3 i e h2 h3
  · rcases m h1 with e | e
    · subst e; exact n1 h2
    · exact a4 i e h2
  · rcases m h1 with e | e
    · exact n2 e.symm
    · exact a5 e
  · rcases m h1 with e | e
    · exact n3 e.symm
    · exact a6 e
  · rcases m h1 with e | e
    · exact n4 e.symm
    · exact a7 e
  · rcases m h1 with e | e
    · exact n5 e.symm
    · exact a10 e (fun w => h2 (List.mem_cons_of_mem _ w))
  · rcases m h1 with e | e
    · exact (n6 e.symm).2
    · exact a11 e
  · rcases m h1 with e | e
    · exact (n7 e.symm).2
    · exact a12 e
  · rcases m h1 with e | e
    · subst e; exact n8 h2
    · exact a13 i e h2
  · rcases m w with e | e
    · exact List.mem_cons_of_mem _ (n6 e.symm).1
    · exact List.mem_cons_of_mem _ (a19 e)
  · rcases m w with e | e
    · exact List.mem_cons_of_mem _ (n7 e.symm).1
    · exact List.mem_cons_of_mem _ (a20 e)
/-- a field of t is set, new things behind it -/
theorem wX.put (h : wX S F t D js jp S1 F1 z) {k : Nat} (hD : k ∉ D) (hk : Keep (fun b => b = t) S1 S2) (hc : ∀ c, c ≠ 1200 + k → mR S2 c t = mR S1 c t) (hi : ∀ c, mI S2 c t = mI S1 c t) (hf : ∀ b, b ∈ mL S1 → F2 b = F1 b) (hFO : FO S2 F2) (hz1 : ∀ i, i ∈ D → z2 i = z i) (hz2 : ∀ i, i < js → z2 (20 + i) = z (20 + i) ∧ z2 (70 + i) = z (70 + i)) (hz3 : ∀ i, i < jp → z2 (30 + i) = z (30 + i)) (hz4 : 0 ∈ D → z2 60 = z 60) (hz5 : 1 ∈ D → z2 61 = z 61) (hz6 : 12 ∈ D → z2 66 = z 66) (hz7 : 6 ∈ D → z2 62 = z 62 ∧ z2 63 = z 63 ∧ z2 64 = z 64 ∧ z2 65 = z 65) : wX S F t D js jp S2 F2 z2 := by
  have h0 := h
  obtain ⟨⟨a1, a2⟩, a3, a4, a5, a6, a7, a8, a9, a10, a11, a12, a13, a14, a15, a16, a17, a18, a19, a20, a21, a22, a23⟩ := h
  have nt : ∀ i, i ∈ D → i = 2 ∨ i = 3 → z i ≠ t := fun i hi h2 e => by
    have w := (a4 i hi (by rcases h2 with e | e <;> subst e <;> decide)).2.2
    rw [e, a2] at w
    injection w with _ w
    rcases h2 with e | e <;> subst e <;> exact absurd w (by decide)
  refine h0.mv (hk.mono (fun b _ e => by rw [e, a2])) (a16.tr hk) (fun i i1 i2 i3 => hc _ (fun e => hD (by rw [show k = i by omega]; exact i1))) (fun i _ _ => hi _) (fun i i1 => ?_) (fun i i1 => ?_) hf hFO hz1 hz2 hz3 hz4 hz5 hz6 hz7
  · have m2 := a17 (by omega)
    exact congrFun (hk.2.1 _ (a4 2 m2 (by decide)).1.1 (nt 2 m2 (Or.inl rfl))).2.2.2.2.2 i
  · have m3 := a18 (by omega)
    exact congrFun (hk.2.1 _ (a4 3 m3 (by decide)).1.1 (nt 3 m3 (Or.inr rfl))).2.2.2.2.2 i
theorem updN_ne {f : Nat → Nat} {k v i : Nat} (h : i ≠ k) : updN f k v i = f i := if_neg h
theorem updN_eq {f : Nat → Nat} {k v : Nat} : updN f k v k = v := if_pos rfl
theorem wX.arr (h : wX S F t D js jp S1 F1 z) {k q : Nat} (hk : k ∈ [2, 3, 8, 9, 10, 13, 14]) (hD : k ∉ D) (hq : q ∉ mL S1) : wX S F t (k :: D) js jp (sR (nA S1 q (xr k).1 (xr k).2.1) (1200 + k) t (some q)) (fun b => if b = q then (20, (xr k).2.2) else F1 b) (updN z k q) := by
  have k20 : k < 20 ∧ k ≠ 0 ∧ k ≠ 1 ∧ k ≠ 12 ∧ k ≠ 6 ∧ k ≠ 4 ∧ k ≠ 5 ∧ k < 15 := (by decide : ∀ k ∈ [2, 3, 8, 9, 10, 13, 14], k < 20 ∧ k ≠ 0 ∧ k ≠ 1 ∧ k ≠ 12 ∧ k ≠ 6 ∧ k ≠ 4 ∧ k ≠ 5 ∧ k < 15) k hk
  have ot := h.1.1
  have tq : t ≠ q := fun e => hq (e ▸ ot.1)
  have kq : Keep (fun b => b = t) S1 (sR (nA S1 q (xr k).1 (xr k).2.1) (1200 + k) t (some q)) := Keep.sR (P := fun b => b = t) (Keep.nA (P := fun b => b = t) Keep.rf hq) rfl
  have oq : isO (sR (nA S1 q (xr k).1 (xr k).2.1) (1200 + k) t (some q)) (xr k).1 q := isO_sR isO_nA_self
  have w := h.put (z2 := updN z k q) (F2 := fun b => if b = q then (20, (xr k).2.2) else F1 b) hD kq (fun c hc => by
    rw [mR_sR, if_neg (fun w => hc w.1)]
    exact ((Keep.nA (P := fun _ => False) (k := (xr k).1) (n := (xr k).2.1) (Keep.rf (S := S1)) hq).2.1 t ot.1 (fun w => w)).2.1 c) (fun c => rfl) (F_new hq) (FO_new h.2.2.2.2.2.2.2.2.2.2.2.2.1 (fun x hx => (kq.1 x hx).1) oq.1) (fun i hi => updN_ne (fun e => hD (e ▸ hi))) (fun i hi => ⟨updN_ne (by omega), updN_ne (by omega)⟩) (fun i hi => updN_ne (by omega)) (fun _ => updN_ne (by omega)) (fun _ => updN_ne (by omega)) (fun _ => updN_ne (by omega)) (fun _ => ⟨updN_ne (by omega), updN_ne (by omega), updN_ne (by omega), updN_ne (by omega)⟩)
  refine w.up (by omega) (fun _ _ => by rw [mR_sR, if_pos ⟨rfl, rfl⟩, updN_eq]) (fun _ => ?_) (fun e => absurd e (by omega)) (fun e => absurd e (by omega)) (fun e => absurd e (by omega)) (fun e => absurd e (by omega)) (fun e => absurd e (by omega)) (fun e => absurd e (by omega)) (fun e => absurd e (by omega))
  rw [updN_eq]
  exact ⟨oq, by show mN (nA S1 q (xr k).1 (xr k).2.1) q = _; rw [mN_nA, if_pos rfl], if_pos rfl⟩
def fB (F1 : Nat → Nat × Nat) (j q e : Nat) : Nat → Nat × Nat := fun b => if b = q then (j, 1) else if b = e then (j, 2) else F1 b
theorem newB_all {j q e : Nat} (hq : q ∉ mL S1) (he : e ∉ mL (nO S1 q 2)) : e ∉ mL S1 ∧ e ≠ q ∧ Bt (newB S1 q e) (fB F1 j q e) j q e [] 64 ∧ (∀ b, b ∈ mL S1 → fB F1 j q e b = F1 b) ∧ (FO S1 F1 → FO (newB S1 q e) (fB F1 j q e)) ∧ Keep (fun _ => False) S1 (newB S1 q e) := by
  have he1 : e ∉ mL S1 := fun w => he (List.mem_append_left _ w)
  have eq : e ≠ q := fun w => he (by rw [w]; exact (isO_nO_self (S := S1) (k := 2)).1)
  have kq := newB_keep hq he
  have bq := newB_by (S1 := S1) he
  have hf : ∀ b, b ∈ mL S1 → fB F1 j q e b = F1 b := fun b hb => by
    unfold fB
    rw [if_neg (fun (w : b = q) => hq (w ▸ hb)), if_neg (fun (w : b = e) => he1 (w ▸ hb))]
  refine ⟨he1, eq, ⟨bq, if_pos rfl, ?_, newB_n⟩, hf, fun hF b hb => ?_, (Keep.rf (P := fun _ => False)).trN kq (fun b hb w => absurd (w ▸ hb) hq)⟩
  · unfold fB; rw [if_neg eq, if_pos rfl]
  · by_cases e3 : b = q
    · rw [e3]; exact bq.1.1
    · by_cases e4 : b = e
      · rw [e4]; exact bq.2.2.1.1
      · unfold fB at hb
        rw [if_neg e3, if_neg e4] at hb
        exact (kq.1 b (hF b hb)).1
theorem wX.byt (h : wX S F t D js jp S1 F1 z) {k q e : Nat} (hk : k = 0 ∨ k = 1) (hD : k ∉ D) (hq : q ∉ mL S1) (he : e ∉ mL (nO S1 q 2)) : wX S F t (k :: D) js jp (sR (newB S1 q e) (1200 + k) t (some q)) (fB F1 (21 + k) q e) (updN (updN z k q) (60 + k) e) := by
  obtain ⟨he1, eq, hB, hf, hF, kn⟩ := newB_all (F1 := F1) (j := 21 + k) hq he
  have ot := h.1.1
  have tq : t ≠ q := fun e => hq (e ▸ ot.1)
  have te : t ≠ e := fun w => he1 (w ▸ ot.1)
  have kt : Keep (fun b => b = t) (newB S1 q e) (sR (newB S1 q e) (1200 + k) t (some q)) := Keep.sR (P := fun b => b = t) Keep.rf rfl
  have kq : Keep (fun b => b = t) S1 (sR (newB S1 q e) (1200 + k) t (some q)) := (kn.mono (fun _ _ w => w.elim)).tr kt
  have u : ∀ i, i ≠ k → i ≠ 60 + k → updN (updN z k q) (60 + k) e i = z i := fun i h1 h2 => by rw [updN_ne h2, updN_ne h1]
  have w := h.put (z2 := updN (updN z k q) (60 + k) e) (F2 := fB F1 (21 + k) q e) hD kq (fun c hc => by
    rw [mR_sR, if_neg (fun w => hc w.1)]
    exact (kn.2.1 t ot.1 (fun w => w)).2.1 c) (fun c => (kn.2.1 t ot.1 (fun w => w)).1 c) hf (fun b hb => (kt.1 b (hF h.2.2.2.2.2.2.2.2.2.2.2.2.1 b hb)).1) (fun i hi => ?_) (fun i hi => ⟨u _ (by have := h.lim.1; omega) (by have := h.lim.1; omega), u _ (by have := h.lim.1; omega) (by have := h.lim.1; omega)⟩) (fun i hi => u _ (by have := h.lim.2.1; omega) (by have := h.lim.2.1; omega)) (fun m => u _ (by omega) (fun e => hD (by rw [show k = 0 by omega]; exact m))) (fun m => u _ (by omega) (fun e => hD (by rw [show k = 1 by omega]; exact m))) (fun _ => u _ (by omega) (by omega)) (fun _ => ⟨u _ (by omega) (by omega), u _ (by omega) (by omega), u _ (by omega) (by omega), u _ (by omega) (by omega)⟩)
  · have bB := hB.keep (F' := fB F1 (21 + k) q e) kt (fun b hb w => by
      rw [w, hf t ot.1, h.1.2] at hb; have hb : 20 = 21 + k := hb; omega) (fun _ _ => rfl)
    refine w.up (by omega) (fun _ _ => ?_) (fun m => absurd m (by rcases hk with e | e <;> subst e <;> decide)) (fun m => ?_) (fun m => ?_) (fun e => absurd e (by omega)) (fun e => absurd e (by omega)) (fun e => absurd e (by omega)) (fun e => absurd e (by omega)) (fun e => absurd e (by omega))
    · rw [mR_sR, if_pos ⟨rfl, rfl⟩, updN_ne (by omega), updN_eq]
    · subst m; exact bB
    · subst m; exact bB
  · exact u i (fun e => hD (e ▸ hi)) (by have := h.lim.2.2 i hi; omega)
theorem wX.int (h : wX S F t D js jp S1 F1 z) {k : Nat} (hk : 15 < k) (k60 : k < 20) (hD : k ∉ D) : wX S F t (k :: D) js jp (sI S1 (xi k) t 0) F1 z := by
  have kt : Keep (fun b => b = t) S1 (sI S1 (xi k) t 0) := Keep.sI (P := fun b => b = t) Keep.rf rfl
  have w := h.mv (z2 := z) (F2 := F1) (kt.mono (fun b _ e => by rw [e, h.1.2])) (h.2.2.2.2.2.2.2.2.2.2.2.2.2.2.1.tr kt) (fun i _ _ _ => rfl) (fun i hi h15 => by rw [mI_sI, if_neg (fun w => hD (by rw [← xi_inj (h.lim.2.2 i hi) k60 w.1]; exact hi))]) (fun _ _ => rfl) (fun _ _ => rfl) (fun _ _ => rfl) h.2.2.2.2.2.2.2.2.2.2.2.2.1 (fun _ _ => rfl) (fun _ _ => ⟨rfl, rfl⟩) (fun _ _ => rfl) (fun _ => rfl) (fun _ => rfl) (fun _ => rfl) (fun _ => ⟨rfl, rfl, rfl, rfl⟩)
  exact w.up (by omega) (fun e => absurd e (by omega)) (fun m => absurd m (by simp only [List.mem_cons, List.not_mem_nil, or_false]; omega)) (fun e => absurd e (by omega)) (fun e => absurd e (by omega)) (fun e => absurd e (by omega)) (fun e => absurd e (by omega)) (fun e => absurd e (by omega)) (fun e => absurd e (by omega)) (fun _ => mI_sIs)
/-- hunks -/
theorem wX.hun (h : wX S F t D js jp S1 F1 z) {u q : Nat} (hD : 12 ∉ D) (hu : u ∉ mL S1) {S3 : MM} {F3 : Nat → Nat × Nat} (hH : HuR S3 F3 25 u q 64 [] 0 0 0 0) (hf : ∀ b, b ∈ mL (nO S1 u 7) → b ≠ u → F3 b = F1 b) (hk : Keep (fun b => b = u) (nO S1 u 7) S3) : wX S F t (12 :: D) js jp (sR S3 1212 t (some u)) F3 (updN (updN z 12 u) 66 q) := by
  have ot := h.1.1
  have tu : t ≠ u := fun e => hu (e ▸ ot.1)
  have kn : Keep (fun _ => False) S1 S3 := (Keep.nO (P := fun _ => False) Keep.rf hu).trN hk (fun b hb e => absurd (e ▸ hb) hu)
  have kt : Keep (fun b => b = t) S3 (sR S3 1212 t (some u)) := Keep.sR (P := fun b => b = t) Keep.rf rfl
  have kq : Keep (fun b => b = t) S1 (sR S3 1212 t (some u)) := (kn.mono (fun _ _ w => w.elim)).tr kt
  have hf1 : ∀ b, b ∈ mL S1 → F3 b = F1 b := fun b hb => hf b (List.mem_append_left _ hb) (fun e => hu (e ▸ hb))
  have u2 : ∀ i, i ≠ 12 → i ≠ 66 → updN (updN z 12 u) 66 q i = z i := fun i h1 h2 => by rw [updN_ne h2, updN_ne h1]
  have hl := h.lim
  have w := h.put (z2 := updN (updN z 12 u) 66 q) (F2 := F3) hD kq (fun c hc => by
    rw [mR_sR, if_neg (fun w => hc w.1)]
    exact (kn.2.1 t ot.1 (fun w => w)).2.1 c) (fun c => (kn.2.1 t ot.1 (fun w => w)).1 c) hf1 hH.2.2.2.2.2.2.2.2.2.2.2.2.2.2.2.2.1 (fun i hi => u2 _ (fun e => hD (e ▸ hi)) (by have := hl.2.2 i hi; omega)) (fun i hi => ⟨u2 _ (by omega) (by omega), u2 _ (by omega) (by omega)⟩) (fun i hi => u2 _ (by omega) (by omega)) (fun _ => u2 _ (by omega) (by omega)) (fun _ => u2 _ (by omega) (by omega)) (fun m => absurd m hD) (fun _ => ⟨u2 _ (by omega) (by omega), u2 _ (by omega) (by omega), u2 _ (by omega) (by omega), u2 _ (by omega) (by omega)⟩)
  refine w.up (by omega) (fun _ _ => ?_) (fun m => absurd m (by decide)) (fun e => absurd e (by omega)) (fun e => absurd e (by omega)) (fun _ => ?_) (fun e => absurd e (by omega)) (fun e => absurd e (by omega)) (fun e => absurd e (by omega)) (fun e => absurd e (by omega))
  · rw [mR_sR, if_pos ⟨rfl, rfl⟩, updN_ne (by omega), updN_eq]
  · rw [updN_ne (by omega), updN_eq, updN_eq]
    exact hH.kp kt (fun b hb w => by rw [w, hf1 t ot.1, h.1.2] at hb; exact absurd hb (by decide)) (fun _ _ => rfl) hH.2.2.2.2.2.2.2.2.2.2.2.2.2.2.2.2.1
/-- what is of t is new -/
theorem wX.out (h : wX S F t D js jp S1 F1 z) (h0 : ∀ b, ¬ cO (F b).1) {b : Nat} (hb : cO (F1 b).1) (hbt : b ≠ t) : b ∉ mL S := fun w => h0 b (by rw [← h.2.2.2.2.2.2.2.2.2.2.2.2.2.1 b w hbt]; exact hb)
/-- a slot -/
theorem wX.slt (h : wX S F t D js jp S1 F1 z) (h0 : ∀ b, ¬ cO (F b).1) {q e : Nat} (hD : 2 ∈ D) (hj : js < 8) (hjp : jp = 0) (hq : q ∉ mL S1) (he : e ∉ mL (nO S1 q 2)) : wX S F t D (js + 1) jp (rR (newB S1 q e) (z 2) (va_up (eR (newB S1 q e) (z 2)) js (some q))) (fB F1 (50 + js) q e) (updN (updN z (20 + js) q) (70 + js) e) := by
  obtain ⟨he1, eq, hB, hf, hF, kn⟩ := newB_all (F1 := F1) (j := 50 + js) hq he
  obtain ⟨r1, r2, r3⟩ := h.2.2.1 2 hD (by decide)
  have r3 : F1 (z 2) = (20, 2) := r3
  have ot := h.1.1
  have ft := h.1.2
  have zt : z 2 ≠ t := fun w => by rw [w, ft] at r3; injection r3 with _ w2; exact absurd w2 (by decide)
  have kz : Keep (fun b => b = z 2) (newB S1 q e) (rR (newB S1 q e) (z 2) (va_up (eR (newB S1 q e) (z 2)) js (some q))) := Keep.rR (P := fun b => b = z 2) Keep.rf rfl
  have k2 : Keep (fun b => b = z 2) S1 (rR (newB S1 q e) (z 2) (va_up (eR (newB S1 q e) (z 2)) js (some q))) := (kn.mono (fun _ _ w => w.elim)).tr kz
  have zS : z 2 ∉ mL S := h.out h0 (by rw [r3]; exact ⟨by decide, by decide⟩) zt
  have hl := h.lim
  have u2 : ∀ i, i ≠ 20 + js → i ≠ 70 + js → updN (updN z (20 + js) q) (70 + js) e i = z i := fun i h1 h2 => by rw [updN_ne h2, updN_ne h1]
  have er : eR (newB S1 q e) (z 2) = eR S1 (z 2) := (kn.2.1 _ r1.1 (fun w => w)).2.2.2.2.2
  have hDn : 20 + js ∉ D := fun w => by have := hl.2.2 _ w; omega
  have w := h.mv (z2 := updN (updN z (20 + js) q) (70 + js) e) (F2 := fB F1 (50 + js) q e) (k2.mono (fun b _ w => by rw [w, r3])) (h.kt.trN k2 (fun b hb w => absurd (w ▸ hb) zS)) (fun i _ _ _ => (k2.2.1 t ot.1 (Ne.symm zt)).2.1 _) (fun i _ _ => (k2.2.1 t ot.1 (Ne.symm zt)).1 _) (fun i hi => ?_) (fun i hi => absurd hi (by omega)) hf (fun b hb => (kz.1 b (hF h.fo b hb)).1) (fun i hi => u2 i (fun w => hDn (w ▸ hi)) (by have := hl.2.2 i hi; omega)) (fun i hi => ⟨u2 _ (by omega) (by omega), u2 _ (by omega) (by omega)⟩) (fun i hi => absurd hi (by omega)) (fun _ => u2 _ (by omega) (by omega)) (fun _ => u2 _ (by omega) (by omega)) (fun _ => u2 _ (by omega) (by omega)) (fun _ => ⟨u2 _ (by omega) (by omega), u2 _ (by omega) (by omega), u2 _ (by omega) (by omega), u2 _ (by omega) (by omega)⟩)
  · obtain ⟨a1, a3, a4, a5, a6, a7, a8, a9, a10, a11, a12, a13, a14, a15, a16, a17, a18, a19, a20, a21, a22, a23⟩ := w
    refine ⟨a1, a3, a4, a5, a6, a7, fun k hk => ?_, a9, a10, a11, a12, a13, a14, a15, a16, fun _ => hD, a18, a19, a20, by omega, a22, a23⟩
    by_cases e2 : k = js
    · subst e2
      have zq : z 2 ≠ q := fun w => hq (w ▸ r1.1)
      have ze : z 2 ≠ e := fun w => he1 (w ▸ r1.1)
      refine ⟨?_, ?_⟩
      · rw [u2 2 (by omega) (by omega), updN_ne (by omega), updN_eq]
        show va_up (eR (newB S1 q e)) (z 2) (va_up (eR (newB S1 q e) (z 2)) k (some q)) (z 2) k = some q
        rw [va_up_self, va_up_self]
      · rw [updN_ne (by omega), updN_eq, updN_eq]
        exact hB.keep (F' := fB F1 (50 + k) q e) kz (fun b hb w => by rw [w, hf _ r1.1, r3] at hb; have hb : 20 = 50 + k := hb; omega) (fun _ _ => rfl)
    · exact a8 k (by omega)
  · show va_up (eR (newB S1 q e)) (z 2) (va_up (eR (newB S1 q e) (z 2)) js (some q)) (z 2) i = eR S1 (z 2) i
    rw [va_up_self, va_up_ne _ _ (by omega), er]
/-- a peer -/
theorem wX.pee (h : wX S F t D js jp S1 F1 z) (h0 : ∀ b, ¬ cO (F b).1) {b : Nat} (hD : 3 ∈ D) (hj : jp < 4) (hb : b ∉ mL S1) {S3 : MM} {F3 : Nat → Nat × Nat} (hP : ∃ X, PeX S3 F3 jp b X e0 T0 [] (fun _ _ => 0) 0) (hFO : FO S3 F3) (hf : ∀ c, c ∈ mL (nO S1 b 11) → c ≠ b → F3 c = F1 c) (hk : Keep (fun c => c = b) (nO S1 b 11) S3) : wX S F t D js (jp + 1) (rR S3 (z 3) (va_up (eR S3 (z 3)) jp (some b))) F3 (updN z (30 + jp) b) := by
  obtain ⟨r1, r2, r3⟩ := h.2.2.1 3 hD (by decide)
  have r3 : F1 (z 3) = (20, 3) := r3
  have ot := h.1.1
  have ft := h.1.2
  have zt : z 3 ≠ t := fun w => by rw [w, ft] at r3; injection r3 with _ w2; exact absurd w2 (by decide)
  have kn : Keep (fun _ => False) S1 S3 := (Keep.nO (P := fun _ => False) Keep.rf hb).trN hk (fun c hc e => absurd (e ▸ hc) hb)
  have hf1 : ∀ c, c ∈ mL S1 → F3 c = F1 c := fun c hc => hf c (List.mem_append_left _ hc) (fun e => hb (e ▸ hc))
  have kz : Keep (fun c => c = z 3) S3 (rR S3 (z 3) (va_up (eR S3 (z 3)) jp (some b))) := Keep.rR (P := fun c => c = z 3) Keep.rf rfl
  have k2 : Keep (fun c => c = z 3) S1 (rR S3 (z 3) (va_up (eR S3 (z 3)) jp (some b))) := (kn.mono (fun _ _ w => w.elim)).tr kz
  have zS : z 3 ∉ mL S := h.out h0 (by rw [r3]; exact ⟨by decide, by decide⟩) zt
  have hl := h.lim
  have er : eR S3 (z 3) = eR S1 (z 3) := (kn.2.1 _ r1.1 (fun w => w)).2.2.2.2.2
  have z23 : 0 < js → z 2 ≠ z 3 := fun hj w => by
    have r4 : F1 (z 2) = (20, 2) := (h.2.2.1 2 (h.2.2.2.2.2.2.2.2.2.2.2.2.2.2.2.1 hj) (by decide)).2.2
    rw [w, r3] at r4; injection r4 with _ w2; exact absurd w2 (by decide)
  have w := h.mv (z2 := updN z (30 + jp) b) (F2 := F3) (k2.mono (fun b _ w => by rw [w, r3])) (h.kt.trN k2 (fun b hb w => absurd (w ▸ hb) zS)) (fun i _ _ _ => (k2.2.1 t ot.1 (Ne.symm zt)).2.1 _) (fun i _ _ => (k2.2.1 t ot.1 (Ne.symm zt)).1 _) (fun i hi => congrFun (k2.2.1 _ (h.2.2.1 2 (h.2.2.2.2.2.2.2.2.2.2.2.2.2.2.2.1 (by omega)) (by decide)).1.1 (z23 (by omega))).2.2.2.2.2 i) (fun i hi => ?_) hf1 (fun b hb => (kz.1 b (hFO b hb)).1) (fun i hi => updN_ne (by have := hl.2.2 i hi; omega)) (fun i hi => ⟨updN_ne (by omega), updN_ne (by omega)⟩) (fun i hi => updN_ne (by omega)) (fun _ => updN_ne (by omega)) (fun _ => updN_ne (by omega)) (fun _ => updN_ne (by omega)) (fun _ => ⟨updN_ne (by omega), updN_ne (by omega), updN_ne (by omega), updN_ne (by omega)⟩)
  · obtain ⟨a1, a3, a4, a5, a6, a7, a8, a9, a10, a11, a12, a13, a14, a15, a16, a17, a18, a19, a20, a21, a22, a23⟩ := w
    refine ⟨a1, a3, a4, a5, a6, a7, a8, fun p hp => ?_, a10, a11, a12, a13, a14, a15, a16, a17, fun _ => hD, a19, a20, a21, by omega, a23⟩
    by_cases e2 : p = jp
    · subst e2
      refine ⟨?_, ?_⟩
      · rw [updN_ne (by omega), updN_eq]
        show va_up (eR S3) (z 3) (va_up (eR S3 (z 3)) p (some b)) (z 3) p = some b
        rw [va_up_self, va_up_self]
      · rw [updN_eq]
        obtain ⟨X, A, H, W, r, a, d, ea, kn, kr, cu, hp9⟩ := hP
        exact ⟨X, A, H, W, r, a, d, ea, kn, kr, cu, hp9.keep kz (fun b hb w => by rw [w, hf1 _ r1.1, r3] at hb; have hb : 20 = p + 1 ∨ 20 = p + 11 ∨ 20 = p + 31 := hb; omega) (fun _ _ => rfl) (fun b hb => (kz.1 b (hFO b hb)).1)⟩
    · exact a9 p (by omega)
  · show va_up (eR S3) (z 3) (va_up (eR S3 (z 3)) jp (some b)) (z 3) i = eR S1 (z 3) i
    rw [va_up_self, va_up_ne _ _ (by omega), er]
def fP (F1 : Nat → Nat × Nat) (u r d nw od : Nat) : Nat → Nat × Nat := fun b => if b = u then (23, 4) else if b = r then (23, 50) else if b = d then (23, 51) else if b = nw then (23, 5) else if b = od then (23, 6) else F1 b
/-- the packer -/
theorem wX.pak (h : wX S F t D js jp S1 F1 z) {u : Nat} (hD : 6 ∉ D) (hD4 : 4 ∉ D) (hD5 : 5 ∉ D) (hu : u ∉ mL S1) {S3 : MM} (hP : pkiP (nO S1 u 8) S3 u) : ∃ F3 z3, z3 6 = u ∧ wX S F t (6 :: D) js jp S3 F3 z3 := by
  obtain ⟨r, d, nw, od, hr, hd, hnw, hod, hPk, mod, hBy, md, m202, hk⟩ := hP
  have q : ∀ {x}, x ∉ mL (nO S1 u 8) → x ∉ mL S1 ∧ x ≠ u := fun {x} hx => ⟨fun w => hx (List.mem_append_left _ w), fun w => hx (by rw [w]; exact (isO_nO_self (S := S1) (k := 8)).1)⟩
  have kn : Keep (fun _ => False) S1 S3 := (Keep.nO (P := fun _ => False) Keep.rf hu).trN hk (fun c hc e => absurd (e ▸ hc) hu)
  have hf1 : ∀ c, c ∈ mL S1 → fP F1 u r d nw od c = F1 c := fun c hc => by
    unfold fP
    rw [if_neg (fun (w : c = u) => hu (w ▸ hc)), if_neg (fun (w : c = r) => (q hr).1 (w ▸ hc)), if_neg (fun (w : c = d) => (q hd).1 (w ▸ hc)), if_neg (fun (w : c = nw) => (q hnw).1 (w ▸ hc)), if_neg (fun (w : c = od) => (q hod).1 (w ▸ hc))]
  have kr := hBy.1.2
  have kd := hBy.2.2.1.2
  have knw := hPk.2.2.2.1.2
  have kod := hPk.2.2.2.2.2.2.1.2
  have ne : ∀ {x y a b}, mK S3 x = a → mK S3 y = b → a ≠ b → x ≠ y := fun h1 h2 h3 e => h3 (by rw [← h1, ← h2, e])
  have f1 : fP F1 u r d nw od u = (23, 4) := if_pos rfl
  have f2 : fP F1 u r d nw od r = (23, 50) := by unfold fP; rw [if_neg (q hr).2, if_pos rfl]
  have f3 : fP F1 u r d nw od d = (23, 51) := by unfold fP; rw [if_neg (q hd).2, if_neg (ne kd kr (by decide)), if_pos rfl]
  have f4 : fP F1 u r d nw od nw = (23, 5) := by unfold fP; rw [if_neg (q hnw).2, if_neg (ne knw kr (by decide)), if_neg (ne knw kd (by decide)), if_pos rfl]
  have f5 : fP F1 u r d nw od od = (23, 6) := by unfold fP; rw [if_neg (q hod).2, if_neg (ne kod kr (by decide)), if_neg (ne kod kd (by decide)), if_neg (Ne.symm hPk.2.2.2.2.2.2.2.1), if_pos rfl]
  have hFO : FO S3 (fP F1 u r d nw od) := fun b hb => by
    by_cases e : b ∈ mL S1
    · exact (kn.1 b e).1
    · by_cases e1 : b = u
      · rw [e1]; exact hPk.1.1
      · by_cases e2 : b = r
        · rw [e2]; exact hBy.1.1
        · by_cases e3 : b = d
          · rw [e3]; exact hBy.2.2.1.1
          · by_cases e4 : b = nw
            · rw [e4]; exact hPk.2.2.2.1.1
            · by_cases e5 : b = od
              · rw [e5]; exact hPk.2.2.2.2.2.2.1.1
              · unfold fP at hb
                rw [if_neg e1, if_neg e2, if_neg e3, if_neg e4, if_neg e5] at hb
                exact absurd (h.fo b hb) e
  have hl := h.lim
  have ot := h.1.1
  refine ⟨fP F1 u r d nw od, updN (updN (updN (updN (updN z 6 u) 62 r) 63 nw) 64 od) 65 d, by rw [updN_ne (by omega), updN_ne (by omega), updN_ne (by omega), updN_ne (by omega), updN_eq], ?_⟩
  have u2 : ∀ i, i ≠ 6 → i ≠ 62 → i ≠ 63 → i ≠ 64 → i ≠ 65 → updN (updN (updN (updN (updN z 6 u) 62 r) 63 nw) 64 od) 65 d i = z i := fun i h1 h2 h3 h4 h5 => by rw [updN_ne h5, updN_ne h4, updN_ne h3, updN_ne h2, updN_ne h1]
  have w := h.mv (z2 := updN (updN (updN (updN (updN z 6 u) 62 r) 63 nw) 64 od) 65 d) (F2 := fP F1 u r d nw od) (kn.mono (fun _ _ w => w.elim)) (h.kt.tr (kn.mono (fun _ _ w => w.elim))) (fun i _ _ _ => (kn.2.1 t ot.1 (fun w => w)).2.1 _) (fun i _ _ => (kn.2.1 t ot.1 (fun w => w)).1 _) (fun i hi => congrFun (kn.2.1 _ (h.2.2.1 2 (h.2.2.2.2.2.2.2.2.2.2.2.2.2.2.2.1 (by omega)) (by decide)).1.1 (fun w => w)).2.2.2.2.2 i) (fun i hi => congrFun (kn.2.1 _ (h.2.2.1 3 (h.2.2.2.2.2.2.2.2.2.2.2.2.2.2.2.2.1 (by omega)) (by decide)).1.1 (fun w => w)).2.2.2.2.2 i) hf1 hFO (fun i hi => u2 i (fun w => hD (w ▸ hi)) (by have := hl.2.2 i hi; omega) (by have := hl.2.2 i hi; omega) (by have := hl.2.2 i hi; omega) (by have := hl.2.2 i hi; omega)) (fun i hi => ⟨u2 _ (by omega) (by omega) (by omega) (by omega) (by omega), u2 _ (by omega) (by omega) (by omega) (by omega) (by omega)⟩) (fun i hi => u2 _ (by omega) (by omega) (by omega) (by omega) (by omega)) (fun _ => u2 _ (by omega) (by omega) (by omega) (by omega) (by omega)) (fun _ => u2 _ (by omega) (by omega) (by omega) (by omega) (by omega)) (fun _ => u2 _ (by omega) (by omega) (by omega) (by omega) (by omega)) (fun m => absurd m hD)
  refine w.up (by omega) (fun _ m => absurd rfl m) (fun m => absurd m (by decide)) (fun e => absurd e (by omega)) (fun e => absurd e (by omega)) (fun e => absurd e (by omega)) (fun _ => ?_) (fun e => absurd e (by omega)) (fun e => absurd e (by omega)) (fun e => absurd e (by omega))
  rw [show updN (updN (updN (updN (updN z 6 u) 62 r) 63 nw) 64 od) 65 d 6 = u by rw [updN_ne (by omega), updN_ne (by omega), updN_ne (by omega), updN_ne (by omega), updN_eq], show updN (updN (updN (updN (updN z 6 u) 62 r) 63 nw) 64 od) 65 d 62 = r by rw [updN_ne (by omega), updN_ne (by omega), updN_ne (by omega), updN_eq], show updN (updN (updN (updN (updN z 6 u) 62 r) 63 nw) 64 od) 65 d 63 = nw by rw [updN_ne (by omega), updN_ne (by omega), updN_eq], show updN (updN (updN (updN (updN z 6 u) 62 r) 63 nw) 64 od) 65 d 64 = od by rw [updN_ne (by omega), updN_eq], updN_eq]
  exact ⟨⟨hPk, f4, f5⟩, f1, ⟨hBy, f2, f3, m202, md⟩, mod⟩
/-- what the writer's constructor asks -/
theorem wX.wrp (h : wX S F t D js jp S1 F1 z) {w : Nat} (h6 : 6 ∈ D) (h4 : 4 ∉ D) (hw : w ∉ mL S1) : wiR (nO S1 w 10) F1 23 w (z 6) (z 62) (z 65) (z 63) (z 64) := by
  obtain ⟨b1, b2, b3, b4⟩ := h.2.2.2.2.2.2.2.2.1 h6 h4
  have kn : Keep (fun _ => False) S1 (nO S1 w 10) := Keep.nO Keep.rf hw
  exact ⟨isO_nO_self, fun b hb => List.mem_append_left _ (h.fo b hb), by decide, b2, b1.keep kn (fun w => w) (fun _ _ => rfl), b3.keep kn (fun w => w) (fun w => w) (fun _ _ => rfl), Classical.byContradiction (fun w9 => hw (h.fo w w9))⟩
/-- an item that writer or reader is -/
theorem wX.big (h : wX S F t D js jp S1 F1 z) {k w kd : Nat} (hk : k = 4 ∨ k = 5) (hD : k ∉ D) (h6 : 6 ∈ D) (hw : w ∉ mL S1) {S3 : MM} {F3 : Nat → Nat × Nat} (hFO : FO S3 F3) (hf : ∀ b, b ∈ mL (nO S1 w kd) → b ≠ w → F3 b = F1 b) (hkp : Keep (fun b => b = w) (nO S1 w kd) S3) (hW : k = 4 → Wk S3 F3 w (z 6) kz0) (hR : k = 5 → Rk S3 F3 w (z 6)) : wX S F t (k :: D) js jp (sR S3 (1200 + k) t (some w)) F3 (updN z k w) := by
  have ot := h.1.1
  have kn : Keep (fun _ => False) S1 S3 := (Keep.nO (P := fun _ => False) Keep.rf hw).trN hkp (fun c hc e => absurd (e ▸ hc) hw)
  have kt : Keep (fun b => b = t) S3 (sR S3 (1200 + k) t (some w)) := Keep.sR (P := fun b => b = t) Keep.rf rfl
  have kq : Keep (fun b => b = t) S1 (sR S3 (1200 + k) t (some w)) := (kn.mono (fun _ _ w => w.elim)).tr kt
  have hf1 : ∀ b, b ∈ mL S1 → F3 b = F1 b := fun b hb => hf b (List.mem_append_left _ hb) (fun e => hw (e ▸ hb))
  have hl := h.lim
  have w9 := h.put (z2 := updN z k w) (F2 := F3) hD kq (fun c hc => by
    rw [mR_sR, if_neg (fun w => hc w.1)]
    exact (kn.2.1 t ot.1 (fun w => w)).2.1 c) (fun c => (kn.2.1 t ot.1 (fun w => w)).1 c) hf1 hFO (fun i hi => updN_ne (fun e => hD (e ▸ hi))) (fun i hi => ⟨updN_ne (by omega), updN_ne (by omega)⟩) (fun i hi => updN_ne (by omega)) (fun _ => updN_ne (by omega)) (fun _ => updN_ne (by omega)) (fun _ => updN_ne (by omega)) (fun _ => ⟨updN_ne (by omega), updN_ne (by omega), updN_ne (by omega), updN_ne (by omega)⟩)
  have q : ∀ {o : Nat}, o ≠ 20 → ∀ b, (F3 b).1 = o → ¬ b = t := fun {o} ho b e w => ho (by rw [← e, w, hf1 t ot.1, h.1.2])
  refine w9.up (by omega) (fun _ _ => ?_) (fun m => absurd m (by rcases hk with e | e <;> subst e <;> decide)) (fun e => absurd e (by omega)) (fun e => absurd e (by omega)) (fun e => absurd e (by omega)) (fun e => absurd e (by omega)) (fun e => ⟨h6, ?_⟩) (fun e => ⟨h6, ?_⟩) (fun e => absurd e (by omega))
  · rw [mR_sR, if_pos ⟨rfl, rfl⟩, updN_eq]
  · subst e
    rw [updN_eq, updN_ne (by omega)]
    obtain ⟨pl, me, a, d, V, cap, hp, hn, ho⟩ := hW rfl
    exact ⟨pl, me, a, d, V, cap, hp.keep kt (q (by decide)) (fun _ _ => rfl) hFO, hn, ho⟩
  · subst e
    rw [updN_eq, updN_ne (by omega)]
    obtain ⟨cu, ids, fnd, hr⟩ := hR rfl
    exact ⟨cu, ids, fnd, hr.kp kt (q (by decide)) (fun _ _ => rfl)⟩
theorem wX.fin (h : wX S F t D 8 4 S1 F1 z) (hD : ∀ k, k < 19 → k ≠ 7 → k ≠ 11 → k ≠ 15 → k ∈ D) (e8 : ∀ b, b < 8 → eI S1 (z 8) b = -1) (e13 : ∀ b, b < 8 → eI S1 (z 13) b = -1) : xiP S S1 F t := by
  have hz := h
  obtain ⟨⟨a1, a2⟩, a3, a4, a5, a6, a7, a8, a9, a10, a11, a12, a13, a14, a15, a16, a17, a18, a19, a20, a21, a22, a23⟩ := h
  have m : ∀ k, k < 19 → k ≠ 7 → k ≠ 11 → k ≠ 15 → k ∈ D := hD
  have hx : ∀ p, p < 4 → ∃ X, PeX S1 F1 p (z (30 + p)) X e0 T0 [] (fun _ _ => 0) 0 := fun p hp => (a9 p hp).2
  have r2 := a4 2 (m 2 (by decide) (by decide) (by decide) (by decide)) (by decide)
  have r3 := a4 3 (m 3 (by decide) (by decide) (by decide) (by decide)) (by decide)
  have r8 := a4 8 (m 8 (by decide) (by decide) (by decide) (by decide)) (by decide)
  have r9 := a4 9 (m 9 (by decide) (by decide) (by decide) (by decide)) (by decide)
  have r10 := a4 10 (m 10 (by decide) (by decide) (by decide) (by decide)) (by decide)
  have r13 := a4 13 (m 13 (by decide) (by decide) (by decide) (by decide)) (by decide)
  have r14 := a4 14 (m 14 (by decide) (by decide) (by decide) (by decide)) (by decide)
  have i16 : mI S1 1206 t = 0 := a13 16 (m 16 (by decide) (by decide) (by decide) (by decide)) (by decide)
  have i17 : mI S1 1207 t = 0 := a13 17 (m 17 (by decide) (by decide) (by decide) (by decide)) (by decide)
  have i18 : mI S1 1211 t = 0 := a13 18 (m 18 (by decide) (by decide) (by decide) (by decide)) (by decide)
  refine ⟨F1, fun p => if hp : p < 4 then (hx p hp).choose else ((fun _ => 0), (fun _ => 0), (fun _ => 0), fun _ => 0), ⟨z, ⟨⟨a1, a2, fun k k1 k2 k3 k4 => a3 k (m k (by omega) k3 k4 (by omega)) k1 k2, ⟨r2.1, r2.2.1, r2.2.2, fun k hk => (a8 k hk).1⟩, ⟨r3.1, r3.2.1, r3.2.2, fun k hk => (a9 k hk).1⟩⟩, ⟨i16, by decide, i17, by decide, ⟨r8.1, r8.2.1, r8.2.2, e8⟩, ⟨r9.1, r9.2.1, r9.2.2, fun b _ w => absurd rfl w⟩, fun b _ p w => by cases w⟩, ⟨i18, r10.1, r10.2.1, r10.2.2, Nat.zero_le _, Nat.le_refl _, by decide, fun k hk => absurd hk (Nat.not_lt_zero k)⟩, ⟨r13.1, r13.2.1, r13.2.2, e13⟩, ⟨r14.1, r14.2.1, r14.2.2, fun a _ p w => by cases w⟩, fun a _ p w => by cases w⟩, fun p hp => ?_, ⟨_, a5 (m 0 (by decide) (by decide) (by decide) (by decide))⟩, ⟨_, _, a6 (m 1 (by decide) (by decide) (by decide) (by decide))⟩, fun k hk => ⟨z (70 + k), ?_⟩, a11 (m 4 (by decide) (by decide) (by decide) (by decide)), a12 (m 5 (by decide) (by decide) (by decide) (by decide)), ⟨_, _, _, a7 (m 12 (by decide) (by decide) (by decide) (by decide)), by decide⟩, a14⟩, a15, a16⟩
  · show PeX S1 F1 p (z (30 + p)) (if hp : p < 4 then (hx p hp).choose else ((fun _ => 0), (fun _ => 0), (fun _ => 0), fun _ => 0)) e0 T0 [] (fun _ _ => 0) (kz0 (30 + p))
    rw [dif_pos hp, show kz0 (30 + p) = 0 from if_pos ⟨by omega, by omega⟩]
    exact (hx p hp).choose_spec
  · rw [show kz0 (20 + k) = 64 from if_neg (by omega)]
    exact (a8 k hk).2
end WX
def I_xi (D : List Nat) (js jp C Z m t : Nat) (lo1 : Nat) (F : Nat → Nat × Nat) (S : MM) (k : Nat) : KT := fun lo st S1 cs sl => ∃ F1 z, k = m ∧ wX S F t D js jp S1 F1 z ∧ (lo1 = 0 → lo = [(0, .inr (.inr (some t)))]) ∧ (lo1 = 1 → lo = [(0, .inr (.inr (some t))), (1, .inr (.inr (some (z 6))))]) ∧ lo1 < 2 ∧ st = [] ∧ cs = C ∧ sl = Z
def I_xs (D : List Nat) (C Z t : Nat) (F : Nat → Nat × Nat) (S : MM) (k : Nat) : KT := fun lo st S1 cs sl => ∃ F1 z j, j + k = 8 + 20 ∧ j ≤ 8 ∧ wX S F t D j 0 S1 F1 z ∧ lo = [(0, .inr (.inr (some t))), (1, .inl (nI j))] ∧ st = [] ∧ cs = C + 2 * j ∧ sl = Z + 67 * j
def I_xp (D : List Nat) (C Z t : Nat) (F : Nat → Nat × Nat) (S : MM) (k : Nat) : KT := fun lo st S1 cs sl => ∃ F1 z j, j + k = 4 + 10 ∧ j ≤ 4 ∧ wX S F t D 8 j S1 F1 z ∧ lo = [(0, .inr (.inr (some t))), (1, .inl (nI j))] ∧ st = [] ∧ cs = C + 21 * j ∧ sl = Z + 1416 * j
def T_xini : TR := fun Rc Rs av S cs sl K _Kx => match av with
  | [.inr (.inr t_o)] => pa t_o fun t => (∃ (F : Nat → Nat × Nat), (isO S 12 t ∧ FO S F ∧ (∀ b, ¬ cO (F b).1)) ∧ cs + 140 ≤ Rc ∧ sl + 8844 ≤ Rs ∧ (∀ (S' : MM), (xiP S S' F t) → K none S' (cs + 140) (sl + 8844)))
  | _ => False
def sp_xini (t : Nat) (F : Nat → Nat × Nat) : Sp := (fun av S => av = [.inr (.inr (some t))] ∧ (isO S 12 t ∧ FO S F ∧ (∀ b, ¬ cO (F b).1)), fun _ S => 140, fun _ S => 8844, fun _ S rv S' => rv = none ∧ (xiP S S' F t), fun _ _ _ _ => False)
def tX11_init : CD := [(0, .aload_n 0), (1, .invokespecial 1), (4, .aload_n 0), (5, .new 7), (8, .dup), (9, .invokespecial 9), (12, .putfield 10), (15, .aload_n 0), (16, .new 7), (19, .dup), (20, .invokespecial 9), (23, .putfield 16), (26, .aload_n 0), (27, .bipush 8), (29, .anewarray 7), (32, .putfield 19), (35, .aload_n 0), (36, .iconst 4), (37, .anewarray 23), (40, .putfield 25), (43, .aload_n 0), (44, .iconst 0), (45, .putfield 29), (48, .aload_n 0), (49, .iconst 0), (50, .putfield 33), (53, .aload_n 0), (54, .bipush 8), (56, .newarray .int), (58, .putfield 37), (61, .aload_n 0), (62, .bipush 8), (64, .newarray .int), (66, .putfield 41), (69, .aload_n 0), (70, .bipush 64), (72, .newarray .int), (74, .putfield 44), (77, .aload_n 0), (78, .iconst 0), (79, .putfield 47), (82, .aload_n 0), (83, .new 50), (86, .dup), (87, .invokespecial 52), (90, .putfield 53), (93, .aload_n 0), (94, .bipush 8), (96, .newarray .int), (98, .putfield 57), (101, .aload_n 0), (102, .bipush 8), (104, .anewarray 60), (107, .putfield 62), (110, .iconst 0), (111, .istore_n 1), (112, .iload_n 1), (113, .bipush 8), (115, .if_icmp .ge 22), (118, .aload_n 0), (119, .getfield 19), (122, .iload_n 1), (123, .new 7), (126, .dup), (127, .invokespecial 9), (130, .aastore), (131, .iinc 1 1), (134, .goto (-22)), (137, .iconst 0), (138, .istore_n 1), (139, .iload_n 1), (140, .iconst 4), (141, .if_icmp .ge 23), (144, .aload_n 0), (145, .getfield 25), (148, .iload_n 1), (149, .new 23), (152, .dup), (153, .iload_n 1), (154, .invokespecial 66), (157, .aastore), (158, .iinc 1 1), (161, .goto (-22)), (164, .new 69), (167, .dup), (168, .invokespecial 71), (171, .astore_n 1), (172, .aload_n 0), (173, .new 72), (176, .dup), (177, .aload_n 1), (178, .invokespecial 74), (181, .putfield 77), (184, .aload_n 0), (185, .new 81), (188, .dup), (189, .aload_n 1), (190, .invokespecial 83), (193, .putfield 84), (196, .aload_n 0), (197, .getfield 37), (200, .iconst (-1)), (201, .invokestatic 88), (204, .aload_n 0), (205, .getfield 57), (208, .iconst (-1)), (209, .invokestatic 88), (212, .return_)]
set_option maxRecDepth 100000 in
theorem kX11_init : chk cX11_init tX11_init = true := by decide +kernel
theorem vX11_init_1 : ∀ w ∈ ([.methodLink RX11 1 Lib.objectInit, .instanceMethod Lib.objectInit, .code Lib.objectInit ⟨#[0xb1]⟩ 1 none] : List Cond), w ∈ lw_good := List.forall_mem_cons.mpr ⟨mgd 157 (by decide +kernel) (by decide +kernel), List.forall_mem_cons.mpr ⟨mgd 158 (by decide +kernel) (by decide +kernel), List.forall_mem_cons.mpr ⟨mgd 159 (by decide +kernel) (by decide +kernel), fun _ h => absurd h List.not_mem_nil⟩⟩⟩
theorem vX11_init_9 : ∀ w ∈ ([.instanceMethod yX1_init, .initialized yX1_init.cls, .code yX1_init cX1_init 1 none] : List Cond), w ∈ lw_good := List.forall_mem_cons.mpr ⟨mgd 163 (by decide +kernel) (by decide +kernel), List.forall_mem_cons.mpr ⟨mgd 122 (by decide +kernel) (by decide +kernel), List.forall_mem_cons.mpr ⟨mgd 164 (by decide +kernel) (by decide +kernel), fun _ h => absurd h List.not_mem_nil⟩⟩⟩
theorem vX11_init_52 : ∀ w ∈ ([.instanceMethod yX6_init, .initialized yX6_init.cls, .code yX6_init cX6_init 1 none] : List Cond), w ∈ lw_good := List.forall_mem_cons.mpr ⟨mgd 190 (by decide +kernel) (by decide +kernel), List.forall_mem_cons.mpr ⟨mgd 123 (by decide +kernel) (by decide +kernel), List.forall_mem_cons.mpr ⟨mgd 191 (by decide +kernel) (by decide +kernel), fun _ h => absurd h List.not_mem_nil⟩⟩⟩
theorem vX11_init_66 : ∀ w ∈ ([.instanceMethod yX10_init, .initialized yX10_init.cls, .code yX10_init cX10_init 2 none] : List Cond), w ∈ lw_good := List.forall_mem_cons.mpr ⟨mgd 219 (by decide +kernel) (by decide +kernel), List.forall_mem_cons.mpr ⟨mgd 124 (by decide +kernel) (by decide +kernel), List.forall_mem_cons.mpr ⟨mgd 220 (by decide +kernel) (by decide +kernel), fun _ h => absurd h List.not_mem_nil⟩⟩⟩
theorem vX11_init_71 : ∀ w ∈ ([.instanceMethod yX7_init, .initialized yX7_init.cls, .code yX7_init cX7_init 1 none] : List Cond), w ∈ lw_good := List.forall_mem_cons.mpr ⟨mgd 456 (by decide +kernel) (by decide +kernel), List.forall_mem_cons.mpr ⟨mgd 132 (by decide +kernel) (by decide +kernel), List.forall_mem_cons.mpr ⟨mgd 457 (by decide +kernel) (by decide +kernel), fun _ h => absurd h List.not_mem_nil⟩⟩⟩
theorem vX11_init_74 : ∀ w ∈ ([.instanceMethod yX9_init, .initialized yX9_init.cls, .code yX9_init cX9_init 2 none] : List Cond), w ∈ lw_good := List.forall_mem_cons.mpr ⟨mgd 482 (by decide +kernel) (by decide +kernel), List.forall_mem_cons.mpr ⟨mgd 133 (by decide +kernel) (by decide +kernel), List.forall_mem_cons.mpr ⟨mgd 483 (by decide +kernel) (by decide +kernel), fun _ h => absurd h List.not_mem_nil⟩⟩⟩
theorem vX11_init_83 : ∀ w ∈ ([.instanceMethod yX8_init, .initialized yX8_init.cls, .code yX8_init cX8_init 2 none] : List Cond), w ∈ lw_good := List.forall_mem_cons.mpr ⟨mgd 536 (by decide +kernel) (by decide +kernel), List.forall_mem_cons.mpr ⟨mgd 134 (by decide +kernel) (by decide +kernel), List.forall_mem_cons.mpr ⟨mgd 537 (by decide +kernel) (by decide +kernel), fun _ h => absurd h List.not_mem_nil⟩⟩⟩
theorem vX11_init_88 : ∀ w ∈ ([.methodLink RX11 88 yJ7_fill_53178, .static yJ7_fill_53178, .initialized yJ7_fill_53178.cls, .code yJ7_fill_53178 cJ7_fill_53178 4 none] : List Cond), w ∈ lw_good := List.forall_mem_cons.mpr ⟨mgd 603 (by decide +kernel) (by decide +kernel), List.forall_mem_cons.mpr ⟨mgd 604 (by decide +kernel) (by decide +kernel), List.forall_mem_cons.mpr ⟨mgd 135 (by decide +kernel) (by decide +kernel), List.forall_mem_cons.mpr ⟨mgd 605 (by decide +kernel) (by decide +kernel), fun _ h => absurd h List.not_mem_nil⟩⟩⟩⟩
set_option maxRecDepth 100000 in
set_option maxHeartbeats 2000000 in
theorem c_xini (l : Launch) : ∀ (t : Nat) (F : Nat → Nat × Nat), Ct l yX11_init cX11_init 2 none 7 143 (sp_xini t F) := by
  intro t F
  refine Ct.of (fX11, nX11, aX11, iX11, lX11, [(1, 1, 1, 0, T_obj), (9, 1, 1, 0, T_bini), (52, 1, 1, 0, T_hui), (66, 1, 2, 0, T_pini), (71, 1, 1, 0, T_pki), (74, 1, 2, 0, T_wini), (83, 1, 2, 0, T_rini), (88, 2, 2, 0, T_fillI)], qX11, gX11, []) true tX11_init (fun _ S => look [(15, ([0], I_xi [0] 0 0 2 67 100 t 0 F S)), (26, ([0], I_xi [1, 0] 0 0 4 134 99 t 0 F S)), (35, ([0], I_xi [2, 1, 0] 0 0 5 142 98 t 0 F S)), (43, ([0], I_xi [3, 2, 1, 0] 0 0 6 146 97 t 0 F S)), (48, ([0], I_xi [16, 3, 2, 1, 0] 0 0 6 146 96 t 0 F S)), (53, ([0], I_xi [17, 16, 3, 2, 1, 0] 0 0 6 146 95 t 0 F S)), (61, ([0], I_xi [8, 17, 16, 3, 2, 1, 0] 0 0 7 154 94 t 0 F S)), (69, ([0], I_xi [9, 8, 17, 16, 3, 2, 1, 0] 0 0 8 162 93 t 0 F S)), (77, ([0], I_xi [10, 9, 8, 17, 16, 3, 2, 1, 0] 0 0 9 226 92 t 0 F S)), (82, ([0], I_xi [18, 10, 9, 8, 17, 16, 3, 2, 1, 0] 0 0 9 226 91 t 0 F S)), (93, ([0], I_xi [12, 18, 10, 9, 8, 17, 16, 3, 2, 1, 0] 0 0 11 296 90 t 0 F S)), (101, ([0], I_xi [13, 12, 18, 10, 9, 8, 17, 16, 3, 2, 1, 0] 0 0 12 304 89 t 0 F S)), (110, ([0], I_xi [14, 13, 12, 18, 10, 9, 8, 17, 16, 3, 2, 1, 0] 0 0 13 312 88 t 0 F S)), (112, ([0,1], I_xs [14, 13, 12, 18, 10, 9, 8, 17, 16, 3, 2, 1, 0] 13 312 t F S)), (139, ([0,1], I_xp [14, 13, 12, 18, 10, 9, 8, 17, 16, 3, 2, 1, 0] 29 848 t F S)), (172, ([0,1], I_xi [6, 14, 13, 12, 18, 10, 9, 8, 17, 16, 3, 2, 1, 0] 8 4 118 7672 3 t 1 F S)), (184, ([0,1], I_xi [4, 6, 14, 13, 12, 18, 10, 9, 8, 17, 16, 3, 2, 1, 0] 8 4 131 8534 2 t 1 F S)), (196, ([0,1], I_xi [5, 4, 6, 14, 13, 12, 18, 10, 9, 8, 17, 16, 3, 2, 1, 0] 8 4 140 8844 1 t 1 F S))]) (by decide) (by decide) kX11_init ⟨_, _, rfl⟩ fX11_ok nX11_ok aX11_ok iX11_ok lX11_ok (fun p e R s m args below meth c Q D cy z r A C hR1 hR2 => List.forall_mem_cons.mpr ⟨cOK_use (fun _ _ _ _ _ _ _ _ h => ⟨spObj, cOK_obj C vX11_init_1 ⟨by rw [hR1]; decide, by rw [hR2]; decide⟩, T_obj_ok h⟩), List.forall_mem_cons.mpr ⟨cOK_use (fun _ _ _ _ _ _ _ _ h => let ⟨sp, h1, h2, h3⟩ := u_bini l _ _ _ _ _ _ _ _ h; ⟨sp, cOK_I C h1 vX11_init_9 (Or.inr ⟨"WeaveText", mbd 162 (by decide +kernel) (by decide +kernel)⟩) rfl ⟨by decide, by decide, by decide +kernel⟩ ⟨by rw [hR1]; decide, by rw [hR2]; decide⟩ h2, h3⟩), List.forall_mem_cons.mpr ⟨cOK_use (fun _ _ _ _ _ _ _ _ h => let ⟨sp, h1, h2, h3⟩ := u_hui l _ _ _ _ _ _ _ _ h; ⟨sp, cOK_I C h1 vX11_init_52 (Or.inr ⟨"WeaveText", mbd 189 (by decide +kernel) (by decide +kernel)⟩) rfl ⟨by decide, by decide, by decide +kernel⟩ ⟨by rw [hR1]; decide, by rw [hR2]; decide⟩ h2, h3⟩), List.forall_mem_cons.mpr ⟨cOK_use (fun _ _ _ _ _ _ _ _ h => let ⟨sp, h1, h2, h3⟩ := u_pini l _ _ _ _ _ _ _ _ h; ⟨sp, cOK_I C h1 vX11_init_66 (Or.inl (mgd 218 (by decide +kernel) (by decide +kernel))) rfl ⟨by decide, by decide, by decide +kernel⟩ ⟨by rw [hR1]; decide, by rw [hR2]; decide⟩ h2, h3⟩), List.forall_mem_cons.mpr ⟨cOK_use (fun _ _ _ _ _ _ _ _ h => let ⟨sp, h1, h2, h3⟩ := u_pki l _ _ _ _ _ _ _ _ h; ⟨sp, cOK_I C h1 vX11_init_71 (Or.inr ⟨"WeaveText", mbd 455 (by decide +kernel) (by decide +kernel)⟩) rfl ⟨by decide, by decide, by decide +kernel⟩ ⟨by rw [hR1]; decide, by rw [hR2]; decide⟩ h2, h3⟩), List.forall_mem_cons.mpr ⟨cOK_use (fun _ _ _ _ _ _ _ _ h => let ⟨sp, h1, h2, h3⟩ := u_wini l _ _ _ _ _ _ _ _ h; ⟨sp, cOK_I C h1 vX11_init_74 (Or.inl (mgd 481 (by decide +kernel) (by decide +kernel))) rfl ⟨by decide, by decide, by decide +kernel⟩ ⟨by rw [hR1]; decide, by rw [hR2]; decide⟩ h2, h3⟩), List.forall_mem_cons.mpr ⟨cOK_use (fun _ _ _ _ _ _ _ _ h => let ⟨sp, h1, h2, h3⟩ := u_rini l _ _ _ _ _ _ _ _ h; ⟨sp, cOK_I C h1 vX11_init_83 (Or.inl (mgd 535 (by decide +kernel) (by decide +kernel))) rfl ⟨by decide, by decide, by decide +kernel⟩ ⟨by rw [hR1]; decide, by rw [hR2]; decide⟩ h2, h3⟩), List.forall_mem_cons.mpr ⟨cOK_use (fun _ _ _ _ _ _ _ _ h => let ⟨sp, h1, _, h3⟩ := u_fillI l _ _ _ _ _ _ _ _ h; ⟨sp, cOK_S C h1 vX11_init_88 ⟨by decide, by decide, by decide +kernel⟩ ⟨by rw [hR1]; decide, by rw [hR2]; decide⟩, h3⟩), fun _ h => absurd h List.not_mem_nil⟩⟩⟩⟩⟩⟩⟩⟩) qX11_ok gX11_ok rfl ?_ ?_
  · rintro _ S ⟨rfl, hp⟩
    refine ⟨Nat.le_of_ble_eq_true rfl, 300, ?_⟩
    show (1 = 1 ∧ (True ∧ 0 ≤ 140 ∧ 0 ≤ 8844 ∧ ((0 + 1 ≤ 140 ∧ 0 + 3 ≤ 8844 ∧ ∀ q_2, q_2 ∉ mL S → (1 = 1 ∧ ((isO (nO S q_2 2) 2 q_2) ∧ 0 + 1 + 1 ≤ 140 ∧ 0 + 3 + 64 ≤ 8844 ∧ (∀ (S_3 : MM), (∃ q, q ∉ mL (nO S q_2 2) ∧ S_3 = sI (sI (sR (nA (nO S q_2 2) q 16 64) 200 q_2 (some q)) 201 q_2 0) 202 q_2 0) → (true = true ∧ (isO S_3 12 t ∧ (∃ k1, I_xi [0] 0 0 2 67 100 t 0 F S k1 [(0, .inr (.inr (some t)))] [] (sR S_3 1200 t (some q_2)) (0 + 1 + 1) (0 + 3 + 64)))))))))))
    obtain ⟨h1, h2, h3⟩ := hp
    have h0 : wX S (fun b => if b = t then (20, 1) else F b) t [] 0 0 S (fun b => if b = t then (20, 1) else F b) (fun _ => 0) := ⟨⟨h1, if_pos rfl⟩, fun k hk => (by cases hk), fun k hk => (by cases hk), fun hk => (by cases hk), fun hk => (by cases hk), fun hk => (by cases hk), fun k hk => absurd hk (Nat.not_lt_zero k), fun k hk => absurd hk (Nat.not_lt_zero k), fun hk => (by cases hk), fun hk => (by cases hk), fun hk => (by cases hk), fun k hk => (by cases hk), FO_new h2 (fun _ hx => hx) h1.1, fun _ _ _ => rfl, Keep.rf, fun hk => absurd hk (Nat.not_lt_zero 0), fun hk => absurd hk (Nat.not_lt_zero 0), fun hk => (by cases hk), fun hk => (by cases hk), by decide, by decide, fun i hi => (by cases hi)⟩
    refine ⟨rfl, trivial, Nat.zero_le _, Nat.zero_le _, by decide, by decide, fun q hq => ⟨rfl, isO_nO_self, by decide, by decide, fun S3 hS3 => ?_⟩⟩
    obtain ⟨e, he, rfl⟩ := hS3
    have w := h0.byt (k := 0) (Or.inl rfl) (by decide) hq he
    obtain ⟨a1, a3, a4, a5, a6, a7, a8, a9, a10, a11, a12, a13, a14, a15, a16, a17⟩ := w
    exact ⟨rfl, (newB_keep hq he).isO h1, 100, _, _, rfl, ⟨a1, a3, a4, a5, a6, a7, a8, a9, a10, a11, a12, a13, a14, fun c hc hct => (a15 c hc hct).trans (if_neg hct), a16, a17⟩, fun _ => rfl, (fun w => absurd w (by decide)), by decide, rfl, rfl, rfl⟩
  · intro av S hpre pc I hI k lo st S1 cs sl h
    obtain ⟨rfl, hp⟩ := hpre
    have hm := look_in hI
    simp only [List.mem_cons, List.not_mem_nil, or_false] at hm
    rcases hm with hm | hm | hm | hm | hm | hm | hm | hm | hm | hm | hm | hm | hm | hm | hm | hm | hm | hm
    · cases hm
      obtain ⟨F1, z, rfl, hX, e0, -, -, rfl, rfl, rfl⟩ := h
      cases e0 rfl
      refine ⟨300, ?_⟩
      show (2 + 1 ≤ 140 ∧ 67 + 3 ≤ 8844 ∧ ∀ q_1, q_1 ∉ mL S1 → (1 = 1 ∧ ((isO (nO S1 q_1 2) 2 q_1) ∧ 2 + 1 + 1 ≤ 140 ∧ 67 + 3 + 64 ≤ 8844 ∧ (∀ (S_2 : MM), (∃ q, q ∉ mL (nO S1 q_1 2) ∧ S_2 = sI (sI (sR (nA (nO S1 q_1 2) q 16 64) 200 q_1 (some q)) 201 q_1 0) 202 q_1 0) → (true = true ∧ (isO S_2 12 t ∧ (∃ k1, k1 < 100 ∧ I_xi [1, 0] 0 0 4 134 99 t 0 F S k1 [(0, .inr (.inr (some t)))] [] (sR S_2 1201 t (some q_1)) (2 + 1 + 1) (67 + 3 + 64))))))))
      refine ⟨by decide, by decide, fun q hq => ⟨rfl, isO_nO_self, by decide, by decide, fun S3 hS3 => ?_⟩⟩
      obtain ⟨e, he, rfl⟩ := hS3
      exact ⟨rfl, (newB_keep hq he).isO hX.1.1, 99, by decide, _, _, rfl, hX.byt (k := 1) (Or.inr rfl) (by decide) hq he, fun _ => rfl, (fun w => absurd w (by decide)), by decide, rfl, rfl, rfl⟩
    · cases hm
      obtain ⟨F1, z, rfl, hX, e0, -, -, rfl, rfl, rfl⟩ := h
      cases e0 rfl
      refine ⟨300, ?_⟩
      show (¬ (8 : Int32) < 0 ∧ (8 : Int32).toNatClampNeg * 8 ≤ 536870912 ∧ 4 + 1 ≤ 140 ∧ 134 + (8 : Int32).toNatClampNeg ≤ 8844 ∧ ∀ q_1, q_1 ∉ mL S1 → (true = true ∧ (isO (nA S1 q_1 22 (8 : Int32).toNatClampNeg) 12 t ∧ (∃ k1, k1 < 99 ∧ I_xi [2, 1, 0] 0 0 5 142 98 t 0 F S k1 [(0, .inr (.inr (some t)))] [] (sR (nA S1 q_1 22 (8 : Int32).toNatClampNeg) 1202 t (some q_1)) (4 + 1) (134 + (8 : Int32).toNatClampNeg)))))
      rw [show Int32.toNatClampNeg 8 = 8 from by decide]
      exact ⟨by decide, by decide, by decide, by decide, fun q hq => ⟨rfl, isO_nA hX.1.1 hq, 98, by decide, _, _, rfl, hX.arr (k := 2) (by decide) (by decide) hq, fun _ => rfl, (fun w => absurd w (by decide)), by decide, rfl, rfl, rfl⟩⟩
    · cases hm
      obtain ⟨F1, z, rfl, hX, e0, -, -, rfl, rfl, rfl⟩ := h
      cases e0 rfl
      refine ⟨300, ?_⟩
      show (¬ (4 : Int32) < 0 ∧ (4 : Int32).toNatClampNeg * 8 ≤ 536870912 ∧ 5 + 1 ≤ 140 ∧ 142 + (4 : Int32).toNatClampNeg ≤ 8844 ∧ ∀ q_1, q_1 ∉ mL S1 → (true = true ∧ (isO (nA S1 q_1 24 (4 : Int32).toNatClampNeg) 12 t ∧ (∃ k1, k1 < 98 ∧ I_xi [3, 2, 1, 0] 0 0 6 146 97 t 0 F S k1 [(0, .inr (.inr (some t)))] [] (sR (nA S1 q_1 24 (4 : Int32).toNatClampNeg) 1203 t (some q_1)) (5 + 1) (142 + (4 : Int32).toNatClampNeg)))))
      rw [show Int32.toNatClampNeg 4 = 4 from by decide]
      exact ⟨by decide, by decide, by decide, by decide, fun q hq => ⟨rfl, isO_nA hX.1.1 hq, 97, by decide, _, _, rfl, hX.arr (k := 3) (by decide) (by decide) hq, fun _ => rfl, (fun w => absurd w (by decide)), by decide, rfl, rfl, rfl⟩⟩
    · cases hm
      obtain ⟨F1, z, rfl, hX, e0, -, -, rfl, rfl, rfl⟩ := h
      cases e0 rfl
      refine ⟨300, ?_⟩
      show (True ∧ (isO S1 12 t ∧ (∃ k1, k1 < 97 ∧ I_xi [16, 3, 2, 1, 0] 0 0 6 146 96 t 0 F S k1 [(0, .inr (.inr (some t)))] [] (sI S1 1206 t (0 : Int32)) 6 146)))
      exact ⟨trivial, hX.1.1, 96, by decide, _, _, rfl, hX.int (k := 16) (by decide) (by decide) (by decide), fun _ => rfl, (fun w => absurd w (by decide)), by decide, rfl, rfl, rfl⟩
    · cases hm
      obtain ⟨F1, z, rfl, hX, e0, -, -, rfl, rfl, rfl⟩ := h
      cases e0 rfl
      refine ⟨300, ?_⟩
      show (True ∧ (isO S1 12 t ∧ ((0 : Int32) = 0 ∨ (0 : Int32) = 1) ∧ (∃ k1, k1 < 96 ∧ I_xi [17, 16, 3, 2, 1, 0] 0 0 6 146 95 t 0 F S k1 [(0, .inr (.inr (some t)))] [] (sI S1 1207 t (0 : Int32)) 6 146)))
      exact ⟨trivial, hX.1.1, Or.inl rfl, 95, by decide, _, _, rfl, hX.int (k := 17) (by decide) (by decide) (by decide), fun _ => rfl, (fun w => absurd w (by decide)), by decide, rfl, rfl, rfl⟩
    · cases hm
      obtain ⟨F1, z, rfl, hX, e0, -, -, rfl, rfl, rfl⟩ := h
      cases e0 rfl
      refine ⟨300, ?_⟩
      show (¬ (8 : Int32) < 0 ∧ (8 : Int32).toNatClampNeg * 8 ≤ 536870912 ∧ 6 + 1 ≤ 140 ∧ 146 + (8 : Int32).toNatClampNeg ≤ 8844 ∧ ∀ q_1, q_1 ∉ mL S1 → (true = true ∧ (isO (nA S1 q_1 17 (8 : Int32).toNatClampNeg) 12 t ∧ (∃ k1, k1 < 95 ∧ I_xi [8, 17, 16, 3, 2, 1, 0] 0 0 7 154 94 t 0 F S k1 [(0, .inr (.inr (some t)))] [] (sR (nA S1 q_1 17 (8 : Int32).toNatClampNeg) 1208 t (some q_1)) (6 + 1) (146 + (8 : Int32).toNatClampNeg)))))
      rw [show Int32.toNatClampNeg 8 = 8 from by decide]
      exact ⟨by decide, by decide, by decide, by decide, fun q hq => ⟨rfl, isO_nA hX.1.1 hq, 94, by decide, _, _, rfl, hX.arr (k := 8) (by decide) (by decide) hq, fun _ => rfl, (fun w => absurd w (by decide)), by decide, rfl, rfl, rfl⟩⟩
    · cases hm
      obtain ⟨F1, z, rfl, hX, e0, -, -, rfl, rfl, rfl⟩ := h
      cases e0 rfl
      refine ⟨300, ?_⟩
      show (¬ (8 : Int32) < 0 ∧ (8 : Int32).toNatClampNeg * 8 ≤ 536870912 ∧ 7 + 1 ≤ 140 ∧ 154 + (8 : Int32).toNatClampNeg ≤ 8844 ∧ ∀ q_1, q_1 ∉ mL S1 → (true = true ∧ (isO (nA S1 q_1 17 (8 : Int32).toNatClampNeg) 12 t ∧ (∃ k1, k1 < 94 ∧ I_xi [9, 8, 17, 16, 3, 2, 1, 0] 0 0 8 162 93 t 0 F S k1 [(0, .inr (.inr (some t)))] [] (sR (nA S1 q_1 17 (8 : Int32).toNatClampNeg) 1209 t (some q_1)) (7 + 1) (154 + (8 : Int32).toNatClampNeg)))))
      rw [show Int32.toNatClampNeg 8 = 8 from by decide]
      exact ⟨by decide, by decide, by decide, by decide, fun q hq => ⟨rfl, isO_nA hX.1.1 hq, 93, by decide, _, _, rfl, hX.arr (k := 9) (by decide) (by decide) hq, fun _ => rfl, (fun w => absurd w (by decide)), by decide, rfl, rfl, rfl⟩⟩
    · cases hm
      obtain ⟨F1, z, rfl, hX, e0, -, -, rfl, rfl, rfl⟩ := h
      cases e0 rfl
      refine ⟨300, ?_⟩
      show (¬ (64 : Int32) < 0 ∧ (64 : Int32).toNatClampNeg * 8 ≤ 536870912 ∧ 8 + 1 ≤ 140 ∧ 162 + (64 : Int32).toNatClampNeg ≤ 8844 ∧ ∀ q_1, q_1 ∉ mL S1 → (True ∧ (isO (nA S1 q_1 17 (64 : Int32).toNatClampNeg) 12 t ∧ (∃ k1, k1 < 93 ∧ I_xi [10, 9, 8, 17, 16, 3, 2, 1, 0] 0 0 9 226 92 t 0 F S k1 [(0, .inr (.inr (some t)))] [] (sR (nA S1 q_1 17 (64 : Int32).toNatClampNeg) 1210 t (some q_1)) (8 + 1) (162 + (64 : Int32).toNatClampNeg)))))
      rw [show Int32.toNatClampNeg 64 = 64 from by decide]
      exact ⟨by decide, by decide, by decide, by decide, fun q hq => ⟨trivial, isO_nA hX.1.1 hq, 92, by decide, _, _, rfl, hX.arr (k := 10) (by decide) (by decide) hq, fun _ => rfl, (fun w => absurd w (by decide)), by decide, rfl, rfl, rfl⟩⟩
    · cases hm
      obtain ⟨F1, z, rfl, hX, e0, -, -, rfl, rfl, rfl⟩ := h
      cases e0 rfl
      refine ⟨300, ?_⟩
      show (True ∧ (isO S1 12 t ∧ (∃ k1, k1 < 92 ∧ I_xi [18, 10, 9, 8, 17, 16, 3, 2, 1, 0] 0 0 9 226 91 t 0 F S k1 [(0, .inr (.inr (some t)))] [] (sI S1 1211 t (0 : Int32)) 9 226)))
      exact ⟨trivial, hX.1.1, 91, by decide, _, _, rfl, hX.int (k := 18) (by decide) (by decide) (by decide), fun _ => rfl, (fun w => absurd w (by decide)), by decide, rfl, rfl, rfl⟩
    · cases hm
      obtain ⟨F1, z, rfl, hX, e0, -, -, rfl, rfl, rfl⟩ := h
      cases e0 rfl
      refine ⟨300, ?_⟩
      show (9 + 1 ≤ 140 ∧ 226 + 6 ≤ 8844 ∧ ∀ q_1, q_1 ∉ mL S1 → (1 = 1 ∧ (∃ (F_2 : Nat → Nat × Nat) (j_3 : Nat), (isO (nO S1 q_1 7) 7 q_1 ∧ FO (nO S1 q_1 7) F_2 ∧ j_3 ≠ 0) ∧ 9 + 1 + 1 ≤ 140 ∧ 226 + 6 + 64 ≤ 8844 ∧ (∀ (S_4 : MM), (huP (nO S1 q_1 7) S_4 F_2 j_3 q_1) → (true = true ∧ (isO S_4 12 t ∧ (∃ k1, k1 < 91 ∧ I_xi [12, 18, 10, 9, 8, 17, 16, 3, 2, 1, 0] 0 0 11 296 90 t 0 F S k1 [(0, .inr (.inr (some t)))] [] (sR S_4 1212 t (some q_1)) (9 + 1 + 1) (226 + 6 + 64))))))))
      refine ⟨by decide, by decide, fun u hu => ⟨rfl, F1, 25, ⟨isO_nO_self, fun b hb => List.mem_append_left _ (hX.fo b hb), by decide⟩, by decide, by decide, fun S4 h4 => ?_⟩⟩
      obtain ⟨F', q, g1, g2, g3⟩ := h4
      exact ⟨rfl, g3.isO (isO_nO hX.1.1 hu), 90, by decide, _, _, rfl, hX.hun (by decide) hu g1 g2 g3, fun _ => rfl, (fun w => absurd w (by decide)), by decide, rfl, rfl, rfl⟩
    · cases hm
      obtain ⟨F1, z, rfl, hX, e0, -, -, rfl, rfl, rfl⟩ := h
      cases e0 rfl
      refine ⟨300, ?_⟩
      show (¬ (8 : Int32) < 0 ∧ (8 : Int32).toNatClampNeg * 8 ≤ 536870912 ∧ 11 + 1 ≤ 140 ∧ 296 + (8 : Int32).toNatClampNeg ≤ 8844 ∧ ∀ q_1, q_1 ∉ mL S1 → (true = true ∧ (isO (nA S1 q_1 17 (8 : Int32).toNatClampNeg) 12 t ∧ (∃ k1, k1 < 90 ∧ I_xi [13, 12, 18, 10, 9, 8, 17, 16, 3, 2, 1, 0] 0 0 12 304 89 t 0 F S k1 [(0, .inr (.inr (some t)))] [] (sR (nA S1 q_1 17 (8 : Int32).toNatClampNeg) 1213 t (some q_1)) (11 + 1) (296 + (8 : Int32).toNatClampNeg)))))
      rw [show Int32.toNatClampNeg 8 = 8 from by decide]
      exact ⟨by decide, by decide, by decide, by decide, fun q hq => ⟨rfl, isO_nA hX.1.1 hq, 89, by decide, _, _, rfl, hX.arr (k := 13) (by decide) (by decide) hq, fun _ => rfl, (fun w => absurd w (by decide)), by decide, rfl, rfl, rfl⟩⟩
    · cases hm
      obtain ⟨F1, z, rfl, hX, e0, -, -, rfl, rfl, rfl⟩ := h
      cases e0 rfl
      refine ⟨300, ?_⟩
      show (¬ (8 : Int32) < 0 ∧ (8 : Int32).toNatClampNeg * 8 ≤ 536870912 ∧ 12 + 1 ≤ 140 ∧ 304 + (8 : Int32).toNatClampNeg ≤ 8844 ∧ ∀ q_1, q_1 ∉ mL S1 → (true = true ∧ (isO (nA S1 q_1 23 (8 : Int32).toNatClampNeg) 12 t ∧ (∃ k1, k1 < 89 ∧ I_xi [14, 13, 12, 18, 10, 9, 8, 17, 16, 3, 2, 1, 0] 0 0 13 312 88 t 0 F S k1 [(0, .inr (.inr (some t)))] [] (sR (nA S1 q_1 23 (8 : Int32).toNatClampNeg) 1214 t (some q_1)) (12 + 1) (304 + (8 : Int32).toNatClampNeg)))))
      rw [show Int32.toNatClampNeg 8 = 8 from by decide]
      exact ⟨by decide, by decide, by decide, by decide, fun q hq => ⟨rfl, isO_nA hX.1.1 hq, 88, by decide, _, _, rfl, hX.arr (k := 14) (by decide) (by decide) hq, fun _ => rfl, (fun w => absurd w (by decide)), by decide, rfl, rfl, rfl⟩⟩
    · cases hm
      obtain ⟨F1, z, rfl, hX, e0, -, -, rfl, rfl, rfl⟩ := h
      cases e0 rfl
      refine ⟨300, ?_⟩
      show (∃ k1, k1 < 88 ∧ I_xs [14, 13, 12, 18, 10, 9, 8, 17, 16, 3, 2, 1, 0] 13 312 t F S k1 [(0, .inr (.inr (some t))), (1, .inl (0 : Int32))] [] S1 13 312)
      exact ⟨28, by decide, F1, z, 0, rfl, by decide, hX, rfl, rfl, rfl, rfl⟩
    · cases hm
      obtain ⟨F1, z, j, hjk, hj, hX, rfl, rfl, rfl, rfl⟩ := h
      refine ⟨300, ?_⟩
      show (((8 : Int32) ≤ (nI j) → (∃ k1, k1 < k ∧ I_xp [14, 13, 12, 18, 10, 9, 8, 17, 16, 3, 2, 1, 0] 29 848 t F S k1 [(0, .inr (.inr (some t))), (1, .inl (0 : Int32))] [] S1 (13 + 2 * j) (312 + 67 * j))) ∧ (¬ (8 : Int32) ≤ (nI j) → (isO S1 12 t ∧ (13 + 2 * j + 1 ≤ 140 ∧ 312 + 67 * j + 3 ≤ 8844 ∧ ∀ q_1, q_1 ∉ mL S1 → (1 = 1 ∧ ((isO (nO S1 q_1 2) 2 q_1) ∧ 13 + 2 * j + 1 + 1 ≤ 140 ∧ 312 + 67 * j + 3 + 64 ≤ 8844 ∧ (∀ (S_2 : MM), (∃ q, q ∉ mL (nO S1 q_1 2) ∧ S_2 = sI (sI (sR (nA (nO S1 q_1 2) q 16 64) 200 q_1 (some q)) 201 q_1 0) 202 q_1 0) → (pa (mR S1 1202 t) fun a_3 => a_3 ∈ mL S_2 ∧ ¬ mK S_2 a_3 < 21 ∧ mK S_2 a_3 < 29 ∧ inR S_2 a_3 (nI j) ∧ (∀ w_4, (some q_1) = some w_4 → w_4 ∈ mL S_2 ∧ (mK S_2 a_3 = 21 ∧ mK S_2 w_4 = 1 ∨ mK S_2 a_3 = 22 ∧ mK S_2 w_4 = 2 ∨ mK S_2 a_3 = 23 ∧ mK S_2 w_4 = 5 ∨ mK S_2 a_3 = 24 ∧ mK S_2 w_4 = 11 ∨ mK S_2 a_3 = 25 ∧ mK S_2 w_4 = 13 ∨ mK S_2 a_3 = 26 ∧ (mK S_2 w_4 = 4 ∨ mK S_2 w_4 = 5) ∨ mK S_2 a_3 = 27 ∧ mK S_2 w_4 = 16 ∨ mK S_2 a_3 = 28 ∧ mK S_2 w_4 = 17)) ∧ (∃ k1, k1 < k ∧ I_xs [14, 13, 12, 18, 10, 9, 8, 17, 16, 3, 2, 1, 0] 13 312 t F S k1 [(0, .inr (.inr (some t))), (1, .inl ((nI j) + (1 : Int32)))] [] (rR S_2 a_3 (va_up (eR S_2 a_3) (nI j).toNatClampNeg (some q_1))) (13 + 2 * j + 1 + 1) (312 + 67 * j + 3 + 64))))))))))
      refine if_le (a := 8) (b := j) (by decide) (by omega) (fun hj8 => ?_) (fun hj8 => ?_)
      · have : j = 8 := by omega
        subst this
        exact ⟨14, by omega, F1, z, 0, rfl, by decide, hX, rfl, rfl, rfl, rfl⟩
      · refine ⟨hX.1.1, by omega, by omega, fun q hq => ⟨rfl, isO_nO_self, by omega, by omega, fun S3 hS3 => ?_⟩⟩
        obtain ⟨e, he, rfl⟩ := hS3
        obtain ⟨r1, r2, r3⟩ := hX.2.2.1 2 (by decide) (by decide)
        have k2 := newB_keep hq he
        have o2 := k2.isO r1
        have oq : isO (newB S1 q e) 2 q := (newB_by (S1 := S1) he).1
        have w := hX.slt hp.2.2 (by decide) hj8 rfl hq he
        refine pa_i (hX.2.1 2 (by decide) (by decide) (by decide)) ⟨o2.1, ?_, ?_, ?_, fun w9 hw => ?_, k - 1, by omega, fB F1 (50 + j) q e, updN (updN z (20 + j) q) (70 + j) e, j + 1, by omega, by omega, ?_, by rw [nI_1], rfl, by omega, by omega⟩
        · show ¬ mK (newB S1 q e) (z 2) < 21
          rw [o2.2]; decide
        · show mK (newB S1 q e) (z 2) < 29
          rw [o2.2]; decide
        · exact inRn (S := newB S1 q e) ((k2.1 _ r1.1).2.2.trans r2) hj8 (by decide)
        · cases hw
          exact ⟨oq.1, Or.inr (Or.inl ⟨o2.2, oq.2⟩)⟩
        · rw [nI_clamp (by omega)]; exact w
    · cases hm
      obtain ⟨F1, z, j, hjk, hj, hX, rfl, rfl, rfl, rfl⟩ := h
      refine ⟨300, ?_⟩
      show (((4 : Int32) ≤ (nI j) → (29 + 21 * j + 1 ≤ 140 ∧ 848 + 1416 * j + 5 ≤ 8844 ∧ ∀ q_1, q_1 ∉ mL S1 → (1 = 1 ∧ ((isO (nO S1 q_1 8) 8 q_1) ∧ 29 + 21 * j + 1 + 4 ≤ 140 ∧ 848 + 1416 * j + 5 + 1155 ≤ 8844 ∧ (∀ (S_2 : MM), (pkiP (nO S1 q_1 8) S_2 q_1) → (∃ k1, k1 < k ∧ I_xi [6, 14, 13, 12, 18, 10, 9, 8, 17, 16, 3, 2, 1, 0] 8 4 118 7672 3 t 1 F S k1 [(0, .inr (.inr (some t))), (1, .inr (.inr (some q_1)))] [] S_2 (29 + 21 * j + 1 + 4) (848 + 1416 * j + 5 + 1155))))))) ∧ (¬ (4 : Int32) ≤ (nI j) → (isO S1 12 t ∧ (29 + 21 * j + 1 ≤ 140 ∧ 848 + 1416 * j + 6 ≤ 8844 ∧ ∀ q_3, q_3 ∉ mL S1 → (1 = 1 ∧ (∃ (p_4 : Nat), nI j = nI p_4 ∧ (∃ (F_5 : Nat → Nat × Nat), (isO (nO S1 q_3 11) 11 q_3 ∧ FO (nO S1 q_3 11) F_5 ∧ p_4 < 4) ∧ 29 + 21 * j + 1 + 20 ≤ 140 ∧ 848 + 1416 * j + 6 + 1410 ≤ 8844 ∧ (∀ (S_6 : MM), (piP (nO S1 q_3 11) S_6 F_5 p_4 q_3) → (pa (mR S1 1203 t) fun a_7 => a_7 ∈ mL S_6 ∧ ¬ mK S_6 a_7 < 21 ∧ mK S_6 a_7 < 29 ∧ inR S_6 a_7 (nI j) ∧ (∀ w_8, (some q_3) = some w_8 → w_8 ∈ mL S_6 ∧ (mK S_6 a_7 = 21 ∧ mK S_6 w_8 = 1 ∨ mK S_6 a_7 = 22 ∧ mK S_6 w_8 = 2 ∨ mK S_6 a_7 = 23 ∧ mK S_6 w_8 = 5 ∨ mK S_6 a_7 = 24 ∧ mK S_6 w_8 = 11 ∨ mK S_6 a_7 = 25 ∧ mK S_6 w_8 = 13 ∨ mK S_6 a_7 = 26 ∧ (mK S_6 w_8 = 4 ∨ mK S_6 w_8 = 5) ∨ mK S_6 a_7 = 27 ∧ mK S_6 w_8 = 16 ∨ mK S_6 a_7 = 28 ∧ mK S_6 w_8 = 17)) ∧ (∃ k1, k1 < k ∧ I_xp [14, 13, 12, 18, 10, 9, 8, 17, 16, 3, 2, 1, 0] 29 848 t F S k1 [(0, .inr (.inr (some t))), (1, .inl ((nI j) + (1 : Int32)))] [] (rR S_6 a_7 (va_up (eR S_6 a_7) (nI j).toNatClampNeg (some q_3))) (29 + 21 * j + 1 + 20) (848 + 1416 * j + 6 + 1410)))))))))))
      refine if_le (a := 4) (b := j) (by decide) (by omega) (fun hj8 => ?_) (fun hj8 => ?_)
      · have : j = 4 := by omega
        subst this
        refine ⟨by decide, by decide, fun u hu => ⟨rfl, isO_nO_self, by decide, by decide, fun S3 hS3 => ?_⟩⟩
        obtain ⟨F3, z3, rfl, w⟩ := hX.pak (by decide) (by decide) (by decide) hu hS3
        exact ⟨3, by omega, F3, z3, rfl, w, (fun w => absurd w (by decide)), fun _ => rfl, by decide, rfl, rfl, rfl⟩
      · refine ⟨hX.1.1, by omega, by omega, fun q hq => ⟨rfl, j, rfl, F1, ⟨isO_nO_self, fun b hb => List.mem_append_left _ (hX.fo b hb), hj8⟩, by omega, by omega, fun S3 hS3 => ?_⟩⟩
        obtain ⟨F3, X, g1, g2, g3, g4⟩ := hS3
        obtain ⟨r1, r2, r3⟩ := hX.2.2.1 3 (by decide) (by decide)
        have kn : Keep (fun _ => False) S1 S3 := (Keep.nO (P := fun _ => False) Keep.rf hq).trN g4 (fun c hc e => absurd (e ▸ hc) hq)
        have o2 := kn.isO r1
        have oq : isO S3 11 q := g1.choose_spec.choose_spec.choose_spec.choose_spec.choose_spec.choose_spec.choose_spec.choose_spec.choose_spec.choose_spec.1.1
        have w := hX.pee hp.2.2 (by decide) hj8 hq ⟨X, g1⟩ g2 g3 g4
        refine pa_i (hX.2.1 3 (by decide) (by decide) (by decide)) ⟨o2.1, by rw [o2.2]; decide, by rw [o2.2]; decide, inRn ((kn.1 _ r1.1).2.2.trans r2) hj8 (by decide), fun w9 hw => ?_, k - 1, by omega, F3, updN z (30 + j) q, j + 1, by omega, by omega, ?_, by rw [nI_1], rfl, by omega, by omega⟩
        · cases hw
          exact ⟨oq.1, Or.inr (Or.inr (Or.inr (Or.inl ⟨o2.2, oq.2⟩)))⟩
        · rw [nI_clamp (by omega)]; exact w
    · cases hm
      obtain ⟨F1, z, rfl, hX, -, e0, -, rfl, rfl, rfl⟩ := h
      cases e0 rfl
      refine ⟨300, ?_⟩
      show (118 + 1 ≤ 140 ∧ 7672 + 15 ≤ 8844 ∧ ∀ q_1, q_1 ∉ mL S1 → (1 = 1 ∧ (∃ (F_2 : Nat → Nat × Nat) (j_3 r_4 d5_5 nw_6 od_7 : Nat), (wiR (nO S1 q_1 10) F_2 j_3 q_1 (z 6) r_4 d5_5 nw_6 od_7) ∧ 118 + 1 + 12 ≤ 140 ∧ 7672 + 15 + 847 ≤ 8844 ∧ (∀ (S_8 : MM), (wiP (nO S1 q_1 10) S_8 F_2 j_3 q_1 (z 6) r_4 d5_5 nw_6 od_7) → (true = true ∧ (isO S_8 12 t ∧ (∃ k1, k1 < 3 ∧ I_xi [4, 6, 14, 13, 12, 18, 10, 9, 8, 17, 16, 3, 2, 1, 0] 8 4 131 8534 2 t 1 F S k1 [(0, .inr (.inr (some t))), (1, .inr (.inr (some (z 6))))] [] (sR S_8 1204 t (some q_1)) (118 + 1 + 12) (7672 + 15 + 847))))))))
      refine ⟨by decide, by decide, fun w hw => ⟨rfl, F1, 23, z 62, z 65, z 63, z 64, hX.wrp (by decide) (by decide) hw, by decide, by decide, fun S3 hS3 => ?_⟩⟩
      obtain ⟨F3, a, d, pl, me, g1, g2, g3, g4, g5, g6, g7, g8⟩ := hS3
      have b4 := (hX.2.2.2.2.2.2.2.2.1 (by decide) (by decide)).2.2.2
      have kn : Keep (fun _ => False) S1 S3 := (Keep.nO (P := fun _ => False) Keep.rf hw).trN g4 (fun c hc e => absurd (e ▸ hc) hw)
      refine ⟨rfl, kn.isO hX.1.1, 2, by decide, F3, _, rfl, hX.big (k := 4) (Or.inl rfl) (by decide) (by decide) hw g2 g3 g4 (fun _ => ⟨pl, me, a, d, _, _, g1, fun k hk => ?_, ?_⟩) (fun w => absurd w (by decide)), (fun w => absurd w (by decide)), fun _ => ?_, by decide, rfl, rfl, rfl⟩
      · rw [show kz0 (40 + k) = 64 from if_neg (by omega)]
        exact (g1.2.2.2.2.2.2.2.2.2.1 k hk).2.2.2.2
      · rw [g8, show kz0 50 = 64 from rfl]
        exact (kn.1 _ (hX.2.2.2.2.2.2.2.2.1 (by decide) (by decide)).1.1.2.2.2.2.2.2.1.1).2.2.trans b4
      · rw [updN_ne (by decide)]
    · cases hm
      obtain ⟨F1, z, rfl, hX, -, e0, -, rfl, rfl, rfl⟩ := h
      cases e0 rfl
      refine ⟨300, ?_⟩
      show (131 + 1 ≤ 140 ∧ 8534 + 20 ≤ 8844 ∧ ∀ q_1, q_1 ∉ mL S1 → (1 = 1 ∧ (∃ (F_2 : Nat → Nat × Nat) (j_3 : Nat), (isO (nO S1 q_1 9) 9 q_1 ∧ isO (nO S1 q_1 9) 8 (z 6) ∧ FO (nO S1 q_1 9) F_2 ∧ j_3 ≠ 0) ∧ 131 + 1 + 8 ≤ 140 ∧ 8534 + 20 + 290 ≤ 8844 ∧ (∀ (S_4 : MM), (riP (nO S1 q_1 9) S_4 F_2 j_3 q_1 (z 6)) → (true = true ∧ (isO S_4 12 t ∧ (∃ k1, k1 < 2 ∧ I_xi [5, 4, 6, 14, 13, 12, 18, 10, 9, 8, 17, 16, 3, 2, 1, 0] 8 4 140 8844 1 t 1 F S k1 [(0, .inr (.inr (some t))), (1, .inr (.inr (some (z 6))))] [] (sR S_4 1205 t (some q_1)) (131 + 1 + 8) (8534 + 20 + 290))))))))
      have o6 : isO S1 8 (z 6) := (hX.2.2.2.2.2.2.2.2.2.1 (by decide)).choose_spec.choose_spec.choose_spec.choose_spec.choose_spec.choose_spec.1.2.2.2.2.2.2.2.1
      refine ⟨by decide, by decide, fun w hw => ⟨rfl, F1, 24, ⟨isO_nO_self, isO_nO o6 hw, fun b hb => List.mem_append_left _ (hX.fo b hb), by decide⟩, by decide, by decide, fun S3 hS3 => ?_⟩⟩
      obtain ⟨F3, cu, ids, fnd, g1, g2, g3, g4, g5⟩ := hS3
      have kn : Keep (fun _ => False) S1 S3 := (Keep.nO (P := fun _ => False) Keep.rf hw).trN g4 (fun c hc e => absurd (e ▸ hc) hw)
      refine ⟨rfl, kn.isO hX.1.1, 1, by decide, F3, _, rfl, hX.big (k := 5) (Or.inr rfl) (by decide) (by decide) hw g2 g3 g4 (fun w => absurd w (by decide)) (fun _ => ⟨cu, ids, fnd, g1⟩), (fun w => absurd w (by decide)), fun _ => ?_, by decide, rfl, rfl, rfl⟩
      rw [updN_ne (by decide)]
    · cases hm
      obtain ⟨F1, z, rfl, hX, -, e0, -, rfl, rfl, rfl⟩ := h
      cases e0 rfl
      refine ⟨300, ?_⟩
      show (isO S1 12 t ∧ (2 = 2 ∧ ((pa (mR S1 1208 t) fun a_1 => ((isO S1 17 a_1 ∧ mN S1 a_1 < 2147483648) ∧ 140 ≤ 140 ∧ 8844 ≤ 8844 ∧ ((isO (rI S1 a_1 (fillF (eI S1 a_1) (mN S1 a_1) (-1 : Int32))) 12 t ∧ (2 = 2 ∧ ((pa (mR (rI S1 a_1 (fillF (eI S1 a_1) (mN S1 a_1) (-1 : Int32))) 1213 t) fun a_3 => ((isO (rI S1 a_1 (fillF (eI S1 a_1) (mN S1 a_1) (-1 : Int32))) 17 a_3 ∧ mN (rI S1 a_1 (fillF (eI S1 a_1) (mN S1 a_1) (-1 : Int32))) a_3 < 2147483648) ∧ 140 ≤ 140 ∧ 8844 ≤ 8844 ∧ ((([] : List MV) = [] ∧ mret none (sp_xini t F) [.inr (.inr (some t))] S none (rI (rI S1 a_1 (fillF (eI S1 a_1) (mN S1 a_1) (-1 : Int32))) a_3 (fillF (eI (rI S1 a_1 (fillF (eI S1 a_1) (mN S1 a_1) (-1 : Int32))) a_3) (mN (rI S1 a_1 (fillF (eI S1 a_1) (mN S1 a_1) (-1 : Int32))) a_3) (-1 : Int32))) 140 8844)))))))))))))
      obtain ⟨r1, r2, r3⟩ := hX.2.2.1 8 (by decide) (by decide)
      obtain ⟨s1, s2, s3⟩ := hX.2.2.1 13 (by decide) (by decide)
      have r2 : mN S1 (z 8) = 8 := r2
      have s2 : mN S1 (z 13) = 8 := s2
      have r3 : F1 (z 8) = (20, 4) := r3
      have s3 : F1 (z 13) = (20, 7) := s3
      have z9 : z 13 ≠ z 8 := fun w => by rw [w, r3] at s3; injection s3 with _ w2; exact absurd w2 (by decide)
      have ft := hX.1.2
      have t8 : z 8 ≠ t := fun w => by rw [w, ft] at r3; injection r3 with _ w2; exact absurd w2 (by decide)
      have t13 : z 13 ≠ t := fun w => by rw [w, ft] at s3; injection s3 with _ w2; exact absurd w2 (by decide)
      refine ⟨hX.1.1, rfl, pa_i (hX.2.1 8 (by decide) (by decide) (by decide)) ⟨⟨r1, by rw [r2]; decide⟩, Nat.le_refl _, Nat.le_refl _, hX.1.1, rfl, pa_i (hX.2.1 13 (by decide) (by decide) (by decide)) ⟨⟨s1, ?_⟩, Nat.le_refl _, Nat.le_refl _, rfl, trivial, ⟨rfl, ?_⟩, Nat.le_refl _, Nat.le_refl _⟩⟩⟩
      · show mN S1 (z 13) < 2147483648
        rw [s2]; decide
      · have k8 : Keep (fun b => b = z 8 ∨ b = z 13) S1 (rI (rI S1 (z 8) (fillF (eI S1 (z 8)) (mN S1 (z 8)) (-1))) (z 13) (fillF (eI (rI S1 (z 8) (fillF (eI S1 (z 8)) (mN S1 (z 8)) (-1))) (z 13)) (mN (rI S1 (z 8) (fillF (eI S1 (z 8)) (mN S1 (z 8)) (-1))) (z 13)) (-1))) := Keep.rI (P := fun b => b = z 8 ∨ b = z 13) (Keep.rI (P := fun b => b = z 8 ∨ b = z 13) Keep.rf (Or.inl rfl)) (Or.inr rfl)
        have e1 : ∀ b, b < 8 → eI (rI (rI S1 (z 8) (fillF (eI S1 (z 8)) (mN S1 (z 8)) (-1))) (z 13) (fillF (eI (rI S1 (z 8) (fillF (eI S1 (z 8)) (mN S1 (z 8)) (-1))) (z 13)) (mN (rI S1 (z 8) (fillF (eI S1 (z 8)) (mN S1 (z 8)) (-1))) (z 13)) (-1))) (z 8) b = -1 := fun b hb => by
          show va_up (va_up (eI S1) (z 8) (fillF (eI S1 (z 8)) (mN S1 (z 8)) (-1))) (z 13) _ (z 8) b = -1
          rw [va_up_ne _ _ (Ne.symm z9), va_up_self, r2]
          exact if_pos hb
        have e2 : ∀ b, b < 8 → eI (rI (rI S1 (z 8) (fillF (eI S1 (z 8)) (mN S1 (z 8)) (-1))) (z 13) (fillF (eI (rI S1 (z 8) (fillF (eI S1 (z 8)) (mN S1 (z 8)) (-1))) (z 13)) (mN (rI S1 (z 8) (fillF (eI S1 (z 8)) (mN S1 (z 8)) (-1))) (z 13)) (-1))) (z 13) b = -1 := fun b hb => by
          show va_up (va_up (eI S1) (z 8) (fillF (eI S1 (z 8)) (mN S1 (z 8)) (-1))) (z 13) (fillF _ (mN S1 (z 13)) (-1)) (z 13) b = -1
          rw [va_up_self, s2]
          exact if_pos hb
        generalize rI (rI S1 (z 8) (fillF (eI S1 (z 8)) (mN S1 (z 8)) (-1))) (z 13) (fillF (eI (rI S1 (z 8) (fillF (eI S1 (z 8)) (mN S1 (z 8)) (-1))) (z 13)) (mN (rI S1 (z 8) (fillF (eI S1 (z 8)) (mN S1 (z 8)) (-1))) (z 13)) (-1)) = S9 at k8 e1 e2 ⊢
        have n8 : z 8 ∉ mL S := hX.out hp.2.2 (by rw [r3]; exact ⟨by decide, by decide⟩) t8
        have n13 : z 13 ∉ mL S := hX.out hp.2.2 (by rw [s3]; exact ⟨by decide, by decide⟩) t13
        have nt : ¬ (t = z 8 ∨ t = z 13) := fun w => w.elim (fun w => t8 w.symm) (fun w => t13 w.symm)
        have y2 : ¬ (z 2 = z 8 ∨ z 2 = z 13) := by
          have q : F1 (z 2) = (20, 2) := (hX.2.2.1 2 (by decide) (by decide)).2.2
          intro w
          rcases w with w | w <;> rw [w] at q
          · rw [r3] at q; injection q with _ w2; exact absurd w2 (by decide)
          · rw [s3] at q; injection q with _ w2; exact absurd w2 (by decide)
        have y3 : ¬ (z 3 = z 8 ∨ z 3 = z 13) := by
          have q : F1 (z 3) = (20, 3) := (hX.2.2.1 3 (by decide) (by decide)).2.2
          intro w
          rcases w with w | w <;> rw [w] at q
          · rw [r3] at q; injection q with _ w2; exact absurd w2 (by decide)
          · rw [s3] at q; injection q with _ w2; exact absurd w2 (by decide)
        have m1 : Keep (fun b => (F1 b).1 = 20) S1 S9 := k8.mono (fun b _ w => by
          rcases w with w | w <;> rw [w]
          · rw [r3]
          · rw [s3])
        have m2 : Keep (fun b => b = t) S S9 := hX.kt.trN k8 (fun b hb w => by
          rcases w with w | w
          · exact absurd (w ▸ hb) n8
          · exact absurd (w ▸ hb) n13)
        have w := hX.mv (z2 := z) (F2 := F1) m1 m2 (fun i _ _ _ => (k8.2.1 t hX.1.1.1 nt).2.1 _) (fun i _ _ => (k8.2.1 t hX.1.1.1 nt).1 _) (fun i _ => congrFun (k8.2.1 _ (hX.2.2.1 2 (by decide) (by decide)).1.1 y2).2.2.2.2.2 i) (fun i _ => congrFun (k8.2.1 _ (hX.2.2.1 3 (by decide) (by decide)).1.1 y3).2.2.2.2.2 i) (fun _ _ => rfl) (fun b hb => (k8.1 b (hX.fo b hb)).1) (fun _ _ => rfl) (fun _ _ => ⟨rfl, rfl⟩) (fun _ _ => rfl) (fun _ => rfl) (fun _ => rfl) (fun _ => rfl) (fun _ => ⟨rfl, rfl, rfl, rfl⟩)
        have md : ∀ k, k < 19 → k = 7 ∨ k = 11 ∨ k = 15 ∨ k ∈ [5, 4, 6, 14, 13, 12, 18, 10, 9, 8, 17, 16, 3, 2, 1, 0] := by decide
        exact w.fin (fun k h1 h2 h3 h4 => (md k h1).elim (fun e => absurd e h2) (fun q => q.elim (fun e => absurd e h3) (fun q => q.elim (fun e => absurd e h4) id))) e1 e2
theorem u_xini (l : Launch) : Us l yX11_init cX11_init 2 none 7 143 98 T_xini := by
  intro Rc Rs av S cs sl K Kx h
  unfold T_xini at h
  split at h
  · rename_i t_o
    obtain ⟨t, rfl, h_1⟩ := pa_of h
    obtain ⟨F, hp, hc, hs, hk⟩ := h_1
    refine ⟨(sp_xini t F), c_xini l t F, fun _ _ h9 => ⟨_, _, h9.1⟩, ⟨rfl, hp⟩, hc, hs, fun S' h8 => by
      obtain ⟨-, h8⟩ := h8
      exact hk _ h8, fun _ _ q => q.elim⟩
  · exact h.elim
