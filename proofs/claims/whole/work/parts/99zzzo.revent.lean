/-! ===== The reference: event ===== -/
/-- a span's data in the rows -/
def evD (S : MM) (z : Nat → Nat) (kz : Nat → Nat) (s k9 a nu kd : Nat) (PP : List (Nat × Nat)) : Prop := s < kz 40 ∧ eI S (z 40) s = nI a ∧ eI S (z 41) s = nI kd ∧ ((0 < k9 ∧ 0 < nu ∧ PP = [(a, nu - 1)]) ∨ (k9 = 0 ∧ eI S (z 42) s = nI PP.length ∧ ∃ fp, eI S (z 43) s = nI fp ∧ fp + PP.length ≤ kz 47 ∧ ∀ j, j < PP.length → eI S (z 47) (fp + j) = nI (PP.getD j (0, 0)).1 ∧ eJ S (z 48) (fp + j) = lN (PP.getD j (0, 0)).2))
def evP (R : Rb) (n a nu ix kd k9 : Nat) (PP : List (Nat × Nat)) (oc : Option Nat) (c : Int32) : Prop := n < 4 ∧ a < 256 ∧ nu < 4294967296 ∧ ix < 4611686018427387904 ∧ (agE (R.Q.G n) a).length ≤ nu ∧ PP.length ≤ 32768 ∧ (∀ x, x ∈ PP → x.1 < 256 ∧ x.2 < 4294967296) ∧ k9 < 2147483648 ∧ ((kd = 0 ∧ ∃ ch, oc = some ch ∧ ch < 2000000 ∧ c = nI ch) ∨ (kd ≠ 0 ∧ kd < 3 ∧ oc = none)) ∧ GT (R.Q.G n) (R.Q.T n)
def evQ (S S' : MM) (F : Nat → Nat × Nat) (t : Nat) (z : Nat → Nat) (Y : Nat → Nat → Nat) (R : Rb) (kz : Nat → Nat) (n a nu ix : Nat) (PP : List (Nat × Nat)) (oc : Option Nat) (v : Int32) : Prop := ∃ f F' z' Y' G' T', v = nI f ∧ f < 8 ∧ evX (R.Q.G n) (R.Q.T n) a nu ix PP oc G' T' f ∧ MD S' F' t z' Y' (R.sG n G' T') (evZ kz (R.Q.G n) a nu PP.length) ∧ rH n [24, 15] [] S S' F F' t z z' ∧ ∀ q, Y' q 0 = Y q 0
/-- up to the step -/
def evI (S S1 : MM) (F F1 : Nat → Nat × Nat) (t : Nat) (z z1 : Nat → Nat) (Y : Nat → Nat → Nat) (R : Rb) (kz : Nat → Nat) (n a nu m : Nat) : Prop := MD S1 F1 t z1 Y R (evZ kz (R.Q.G n) a nu m) ∧ rG [24, 15] [] S S1 F F1 t z z1 ∧ nu = (agE (R.Q.G n) a).length
def evU (G : Gr) (PP : List (Nat × Nat)) (Q : List Nat) : Prop := Q.length ≤ PP.length ∧ (PP.take Q.length).map (fun x => lkE G x.1 x.2) = Q.map some
def evT (G : Gr) (PP : List (Nat × Nat)) (Q : List Nat) : Prop := Q.length = PP.length ∧ lkA G PP = some Q ∧ ∀ e, e ∈ Q → e < G.n
def fdP (S : MM) (z : Nat → Nat) (Q : List Nat) : Prop := ∀ j, j < Q.length → eI S (z 24) j = nI (Q.getD j 0)
def stW (S : MM) (z : Nat → Nat) (W : Nat → Nat) : Prop := ∀ s, s < 16 → eI S (z 15) s = nI (W s) ∧ W s ≤ 8192
def jnX (G : Gr) (Q : List Nat) (j x : Nat) : Nat → Nat := fun s => if s < x then G.jn (Q.take (j + 1)) s else G.jn (Q.take j) s
section EVI
variable {S S1 : MM} {F F1 : Nat → Nat × Nat} {t : Nat} {z z1 : Nat → Nat} {Y : Nat → Nat → Nat} {R : Rb} {kz : Nat → Nat} {n a nu m : Nat}
theorem evI.wr (h : evI S S1 F F1 t z z1 Y R kz n a nu m) {j : Nat} (hj : j = 24 ∨ j = 15) (v : Nat → Int32) : evI S (rI S1 (z1 j) v) F F1 t z z1 Y R kz n a nu m := by
  obtain ⟨M1, hG, hn⟩ := h
  have k1 : rK [j] [] S1 (rI S1 (z1 j) v) t z1 := ⟨Keep.rI (P := fun c => c = t ∨ ∃ k, k ∈ [j] ∧ c = z1 k) Keep.rf (Or.inr ⟨j, List.mem_singleton.2 rfl, rfl⟩), fun _ _ => rfl, fun _ => rfl⟩
  have hm : ∀ k, k ∈ [j] → k ∈ mdL ∧ k ∉ mdP := fun k hk => by
    rw [List.mem_singleton.1 hk]
    rcases hj with e | e <;> subst e <;> decide
  refine ⟨k1.md M1 hm (fun f hf => by cases hf), hG.tr (k1.rg.mono (fun k hk => ?_) (fun f hf => by cases hf)), hn⟩
  rw [List.mem_singleton.1 hk]
  rcases hj with e | e <;> subst e <;> decide
theorem evI.ne (h : evI S S1 F F1 t z z1 Y R kz n a nu m) : z1 15 ≠ z1 24 := rK.nz h.1 (by decide) (by decide) (by decide)
theorem evI.nm (h : evI S S1 F F1 t z z1 Y R kz n a nu m) : m ≤ mN S1 (z1 24) ∧ mN S1 (z1 24) ≤ 131072 ∧ mR S1 1524 t = some (z1 24) ∧ isO S1 17 (z1 24) := by
  have r24 := h.1 1 24 (by decide)
  have e : mN S1 (z1 24) = evZ kz (R.Q.G n) a nu m 24 := r24.2.2.2
  have h11 := (h.1 11).2.1
  rw [e]
  exact ⟨evZ_ge (Nat.le_of_eq h.2.2), h11, r24.1, r24.2.2.1⟩
theorem evI.fd (h : evI S S1 F F1 t z z1 Y R kz n a nu m) {Q : List Nat} (hQ : fdP S1 z1 Q) (v : Nat → Int32) : fdP (rI S1 (z1 15) v) z1 Q := fun j hj => by
  rw [eI_rI, if_neg (fun e => h.ne e.symm)]; exact hQ j hj
/-- a row that the event doesn't write -/
theorem evI.row (h : evI S S1 F F1 t z z1 Y R kz n a nu m) (hM : MD S F t z Y R kz) {j : Nat} (hj : j ∈ mdL) (hn : j ∉ [24, 15]) : z1 j = z j ∧ eI S1 (z1 j) = eI S (z j) ∧ eJ S1 (z1 j) = eJ S (z j) ∧ mR S1 (1500 + j) t = some (z1 j) ∧ isO S1 (mdK j) (z1 j) ∧ (j ≠ 24 → mN S1 (z1 j) = mdN kz j) := by
  have e1 := h.2.1.zo hn
  have e2 := h.2.1.row hM (by decide) hj hn
  have r := h.1 1 j hj
  refine ⟨e1, by rw [e1]; exact e2.1, by rw [e1]; exact e2.2.1, r.1, r.2.2.1, fun h24 => ?_⟩
  rw [r.2.2.2]
  unfold mdN
  rw [evZ_o (show 9 ≠ 24 by decide), if_neg h24, if_neg h24, evZ_o (show 47 ≠ 24 by decide), evZ_o (show 40 ≠ 24 by decide)]
end EVI
theorem jnX_0 (G : Gr) (Q : List Nat) (j : Nat) : jnX G Q j 0 = G.jn (Q.take j) := by
  funext s; exact if_neg (Nat.not_lt_zero s)
theorem jn_tk {G : Gr} {Q : List Nat} {j : Nat} (hj : j < Q.length) (s : Nat) : G.jn (Q.take (j + 1)) s = max (G.jn (Q.take j) s) (G.full (Q.getD j 0) s) := by
  rw [List.take_succ_eq_append_getElem hj, Gr.jn_snoc, List.getD_eq_getElem?_getD, List.getElem?_eq_getElem hj]; rfl
theorem evP.k3 {R : Rb} {n a nu ix kd k9 : Nat} {PP : List (Nat × Nat)} {oc : Option Nat} {c : Int32} (h : evP R n a nu ix kd k9 PP oc c) : kd < 3 := by
  rcases h.2.2.2.2.2.2.2.2.1 with w | w
  · rw [w.1]; decide
  · exact w.2.1
theorem rI_sR (S : MM) (q f t : Nat) (o : Option Nat) (v : Nat → Int32) : rI (sR S f t o) q v = sR (rI S q v) f t o := rfl
theorem cpI_z (S : MM) (a q n : Nat) : rI (cpI S a q n) q (eI (nA S q 17 n) q) = nA S q 17 n := by
  unfold cpI
  rw [rI_rI]
  exact rI_id rfl
/-- the row of found parents is made anew -/
theorem evI.new {S : MM} {F : Nat → Nat × Nat} {t : Nat} {z : Nat → Nat} {Y : Nat → Nat → Nat} {R : Rb} {kz : Nat → Nat} {n a nu m q : Nat} (hM : MD S F t z Y R kz) (hq : q ∉ mL S) (hnl : nu ≤ (agE (R.Q.G n) a).length) (hge : (agE (R.Q.G n) a).length ≤ nu) (w2 : kz 24 < m) (hm : m ≤ 32768) : evI S (sR (nA S q 17 (2 * m)) 1524 t (some q)) F (upF F q (100, 100 + 24)) t z (upF z 24 q) Y R kz n a nu m := by
  obtain ⟨b1, b2, b3, b4, b5, b6⟩ := hM 11
  have r24 := hM 1 24 (by decide)
  have e1 : evZ kz (R.Q.G n) a nu m = upF kz 24 (2 * m) := if_pos ⟨hnl, w2⟩
  have g0 : grX [] S S F F t z z (2 * m) := grX.rf (hM 12)
  have g1 := g0.sI (k := 24) (hM 0).1.1 (by decide) r24.2.2.1 (fun e => rK.nt hM (k := 24) (by decide) e.symm) hq rfl
  have M1 : MD _ _ t _ Y R (upF kz 24 (2 * m)) := hM.grw g1 (by decide) (fun k hk => by rw [List.mem_singleton.1 hk]; rfl) (fun k hk hD9 => by
    have h24 : k ≠ 24 := fun e => hD9 (by rw [e]; exact List.mem_singleton.2 rfl)
    unfold mdN
    rw [upF_o (show 9 ≠ 24 by decide), if_neg h24, if_neg h24, upF_o (show 47 ≠ 24 by decide), upF_o (show 40 ≠ 24 by decide)]) rfl ⟨by rw [upF_s]; omega, by rw [upF_s]; omega, by rw [upF_o (by decide)]; exact b3, by rw [upF_o (by decide)]; exact b4, by rw [upF_o (by decide)]; exact b5, by rw [upF_o (by decide)]; exact b6⟩
  have ez : upF z 24 q 24 = q := upF_s
  have g2 : rG [24] [] S (sR (cpI S (z 24) q (2 * m)) (1500 + 24) t (some q)) F (upF F q (100, 100 + 24)) t z (upF z 24 q) := g1.rg (fun k hk => by rw [List.mem_singleton.1 hk, ez]; exact hq)
  have hI0 : evI S (sR (cpI S (z 24) q (2 * m)) (1500 + 24) t (some q)) F (upF F q (100, 100 + 24)) t z (upF z 24 q) Y R kz n a nu m := ⟨by rw [e1]; exact M1, g2.mono (by decide) (fun f hf => hf), by omega⟩
  have hI1 := hI0.wr (Or.inl rfl) (eI (nA S q 17 (2 * m)) q)
  rw [ez, rI_sR, cpI_z] at hI1
  exact hI1
def I_ev1 (t g s k9 : Nat) (c : Int32) (F : Nat → Nat × Nat) (z : Nat → Nat) (Y : Nat → Nat → Nat) (R : Rb) (kz : Nat → Nat) (n a nu ix kd : Nat) (PP : List (Nat × Nat)) (oc : Option Nat) (S : MM) (k : Nat) : KT := fun lo st S1 cs sl => k = 50000000000 ∧ S = S1 ∧ lo = [(0, .inr (.inr (some t))), (1, .inr (.inr (some g))), (2, .inl (nI s)), (3, .inl (nI k9)), (4, .inr (.inl (lN nu))), (6, .inr (.inl (lN ix))), (8, .inl c), (9, .inl (nI a)), (10, .inl (nI PP.length))] ∧ st = [] ∧ cs = 0 ∧ sl = 0
def I_ev2 (t g s k9 : Nat) (c : Int32) (F : Nat → Nat × Nat) (z : Nat → Nat) (Y : Nat → Nat → Nat) (R : Rb) (kz : Nat → Nat) (n a nu ix kd : Nat) (PP : List (Nat × Nat)) (oc : Option Nat) (S : MM) (k : Nat) : KT := fun lo st S1 cs sl => ∃ (F1 : Nat → Nat × Nat) (z1 : Nat → Nat), k = 40000000000 ∧ evI S S1 F F1 t z z1 Y R kz n a nu PP.length ∧ lo = [(0, .inr (.inr (some t))), (1, .inr (.inr (some g))), (2, .inl (nI s)), (3, .inl (nI k9)), (4, .inr (.inl (lN nu))), (6, .inr (.inl (lN ix))), (8, .inl c), (9, .inl (nI a)), (10, .inl (nI PP.length))] ∧ st = [] ∧ cs = evC1 kz (R.Q.G n) a nu PP.length ∧ sl = evC2 kz (R.Q.G n) a nu PP.length
def I_ev3 (t g s k9 : Nat) (c : Int32) (F : Nat → Nat × Nat) (z : Nat → Nat) (Y : Nat → Nat → Nat) (R : Rb) (kz : Nat → Nat) (n a nu ix kd : Nat) (PP : List (Nat × Nat)) (oc : Option Nat) (S : MM) (k : Nat) : KT := fun lo st S1 cs sl => ∃ (Q : List Nat) (F1 : Nat → Nat × Nat) (z1 : Nat → Nat), k = 20000000000 + 10 * (PP.length - Q.length) + 9 ∧ evI S S1 F F1 t z z1 Y R kz n a nu PP.length ∧ evU (R.Q.G n) PP Q ∧ fdP S1 z1 Q ∧ lo = [(0, .inr (.inr (some t))), (1, .inr (.inr (some g))), (2, .inl (nI s)), (3, .inl (nI k9)), (4, .inr (.inl (lN nu))), (6, .inr (.inl (lN ix))), (8, .inl c), (9, .inl (nI a)), (10, .inl (nI PP.length)), (11, .inl (nI Q.length))] ∧ st = [] ∧ cs = evC1 kz (R.Q.G n) a nu PP.length ∧ sl = evC2 kz (R.Q.G n) a nu PP.length
def I_ev4 (t g s k9 : Nat) (c : Int32) (F : Nat → Nat × Nat) (z : Nat → Nat) (Y : Nat → Nat → Nat) (R : Rb) (kz : Nat → Nat) (n a nu ix kd : Nat) (PP : List (Nat × Nat)) (oc : Option Nat) (S : MM) (k : Nat) : KT := fun lo st S1 cs sl => ∃ (Q : List Nat) (F1 : Nat → Nat × Nat) (z1 : Nat → Nat), k = 20000000000 + 10 * (PP.length - Q.length) + 8 ∧ evI S S1 F F1 t z z1 Y R kz n a nu PP.length ∧ evU (R.Q.G n) PP Q ∧ Q.length < PP.length ∧ fdP S1 z1 Q ∧ lo = [(0, .inr (.inr (some t))), (1, .inr (.inr (some g))), (2, .inl (nI s)), (3, .inl (nI k9)), (4, .inr (.inl (lN nu))), (6, .inr (.inl (lN ix))), (8, .inl c), (9, .inl (nI a)), (10, .inl (nI PP.length)), (11, .inl (nI Q.length)), (12, .inl (nI (PP.getD Q.length (0, 0)).1)), (13, .inr (.inl (lN (PP.getD Q.length (0, 0)).2)))] ∧ st = [] ∧ cs = evC1 kz (R.Q.G n) a nu PP.length ∧ sl = evC2 kz (R.Q.G n) a nu PP.length
def I_ev5 (t g s k9 : Nat) (c : Int32) (F : Nat → Nat × Nat) (z : Nat → Nat) (Y : Nat → Nat → Nat) (R : Rb) (kz : Nat → Nat) (n a nu ix kd : Nat) (PP : List (Nat × Nat)) (oc : Option Nat) (S : MM) (k : Nat) : KT := fun lo st S1 cs sl => ∃ (Q : List Nat) (F1 : Nat → Nat × Nat) (z1 : Nat → Nat), k = 20000000000 + 10 * (PP.length - Q.length) + 7 ∧ evI S S1 F F1 t z z1 Y R kz n a nu PP.length ∧ evU (R.Q.G n) PP Q ∧ Q.length < PP.length ∧ fdP S1 z1 Q ∧ eI S1 (z1 24) Q.length = lkI (lkE (R.Q.G n) (PP.getD Q.length (0, 0)).1 (PP.getD Q.length (0, 0)).2) ∧ lo = [(0, .inr (.inr (some t))), (1, .inr (.inr (some g))), (2, .inl (nI s)), (3, .inl (nI k9)), (4, .inr (.inl (lN nu))), (6, .inr (.inl (lN ix))), (8, .inl c), (9, .inl (nI a)), (10, .inl (nI PP.length)), (11, .inl (nI Q.length))] ∧ st = [] ∧ cs = evC1 kz (R.Q.G n) a nu PP.length ∧ sl = evC2 kz (R.Q.G n) a nu PP.length
def I_ev6 (t g s k9 : Nat) (c : Int32) (F : Nat → Nat × Nat) (z : Nat → Nat) (Y : Nat → Nat → Nat) (R : Rb) (kz : Nat → Nat) (n a nu ix kd : Nat) (PP : List (Nat × Nat)) (oc : Option Nat) (S : MM) (k : Nat) : KT := fun lo st S1 cs sl => ∃ (Q : List Nat) (j : Nat) (F1 : Nat → Nat × Nat) (z1 : Nat → Nat), k = 100000 * (PP.length - j) + 99999 ∧ evI S S1 F F1 t z z1 Y R kz n a nu PP.length ∧ evT (R.Q.G n) PP Q ∧ fdP S1 z1 Q ∧ j ≤ PP.length ∧ noR (R.Q.G n) Q j ∧ stW S1 z1 ((R.Q.G n).jn (Q.take j)) ∧ lo = [(0, .inr (.inr (some t))), (1, .inr (.inr (some g))), (2, .inl (nI s)), (4, .inr (.inl (lN nu))), (6, .inr (.inl (lN ix))), (8, .inl c), (9, .inl (nI a)), (10, .inl (nI PP.length)), (11, .inl (nI j))] ∧ st = [] ∧ cs = evC1 kz (R.Q.G n) a nu PP.length ∧ sl = evC2 kz (R.Q.G n) a nu PP.length
def I_ev7 (t g s k9 : Nat) (c : Int32) (F : Nat → Nat × Nat) (z : Nat → Nat) (Y : Nat → Nat → Nat) (R : Rb) (kz : Nat → Nat) (n a nu ix kd : Nat) (PP : List (Nat × Nat)) (oc : Option Nat) (S : MM) (k : Nat) : KT := fun lo st S1 cs sl => ∃ (Q : List Nat) (j i : Nat) (F1 : Nat → Nat × Nat) (z1 : Nat → Nat), k = 100000 * (PP.length - j) + 50000 + (PP.length - i) ∧ evI S S1 F F1 t z z1 Y R kz n a nu PP.length ∧ evT (R.Q.G n) PP Q ∧ fdP S1 z1 Q ∧ j < PP.length ∧ i ≤ PP.length ∧ noR (R.Q.G n) Q j ∧ (∀ i', i' < i → i' ≠ j → Q.getD i' 0 ≠ Q.getD j 0 ∧ (R.Q.G n).bef (Q.getD j 0) (Q.getD i' 0) = false) ∧ stW S1 z1 ((R.Q.G n).jn (Q.take j)) ∧ lo = [(0, .inr (.inr (some t))), (1, .inr (.inr (some g))), (2, .inl (nI s)), (4, .inr (.inl (lN nu))), (6, .inr (.inl (lN ix))), (8, .inl c), (9, .inl (nI a)), (10, .inl (nI PP.length)), (11, .inl (nI j)), (12, .inl (nI i))] ∧ st = [] ∧ cs = evC1 kz (R.Q.G n) a nu PP.length ∧ sl = evC2 kz (R.Q.G n) a nu PP.length
def I_ev8 (t g s k9 : Nat) (c : Int32) (F : Nat → Nat × Nat) (z : Nat → Nat) (Y : Nat → Nat → Nat) (R : Rb) (kz : Nat → Nat) (n a nu ix kd : Nat) (PP : List (Nat × Nat)) (oc : Option Nat) (S : MM) (k : Nat) : KT := fun lo st S1 cs sl => ∃ (Q : List Nat) (j x : Nat) (F1 : Nat → Nat × Nat) (z1 : Nat → Nat), k = 100000 * (PP.length - j) + 100 + 2 * (16 - x) + 1 ∧ evI S S1 F F1 t z z1 Y R kz n a nu PP.length ∧ evT (R.Q.G n) PP Q ∧ fdP S1 z1 Q ∧ j < PP.length ∧ x ≤ 16 ∧ noR (R.Q.G n) Q (j + 1) ∧ stW S1 z1 (jnX (R.Q.G n) Q j x) ∧ lo = [(0, .inr (.inr (some t))), (1, .inr (.inr (some g))), (2, .inl (nI s)), (4, .inr (.inl (lN nu))), (6, .inr (.inl (lN ix))), (8, .inl c), (9, .inl (nI a)), (10, .inl (nI PP.length)), (11, .inl (nI j)), (12, .inl (nI x))] ∧ st = [] ∧ cs = evC1 kz (R.Q.G n) a nu PP.length ∧ sl = evC2 kz (R.Q.G n) a nu PP.length
def I_ev9 (t g s k9 : Nat) (c : Int32) (F : Nat → Nat × Nat) (z : Nat → Nat) (Y : Nat → Nat → Nat) (R : Rb) (kz : Nat → Nat) (n a nu ix kd : Nat) (PP : List (Nat × Nat)) (oc : Option Nat) (S : MM) (k : Nat) : KT := fun lo st S1 cs sl => ∃ (Q : List Nat) (j x : Nat) (F1 : Nat → Nat × Nat) (z1 : Nat → Nat), k = 100000 * (PP.length - j) + 100 + 2 * (16 - x) ∧ evI S S1 F F1 t z z1 Y R kz n a nu PP.length ∧ evT (R.Q.G n) PP Q ∧ fdP S1 z1 Q ∧ j < PP.length ∧ x < 16 ∧ noR (R.Q.G n) Q (j + 1) ∧ stW S1 z1 (jnX (R.Q.G n) Q j x) ∧ lo = [(0, .inr (.inr (some t))), (1, .inr (.inr (some g))), (2, .inl (nI s)), (4, .inr (.inl (lN nu))), (6, .inr (.inl (lN ix))), (8, .inl c), (9, .inl (nI a)), (10, .inl (nI PP.length)), (11, .inl (nI j)), (12, .inl (nI x)), (13, .inl (nI ((R.Q.G n).full (Q.getD j 0) x)))] ∧ st = [] ∧ cs = evC1 kz (R.Q.G n) a nu PP.length ∧ sl = evC2 kz (R.Q.G n) a nu PP.length
def I_ev10 (t g s k9 : Nat) (c : Int32) (F : Nat → Nat × Nat) (z : Nat → Nat) (Y : Nat → Nat → Nat) (R : Rb) (kz : Nat → Nat) (n a nu ix kd : Nat) (PP : List (Nat × Nat)) (oc : Option Nat) (S : MM) (k : Nat) : KT := fun lo st S1 cs sl => ∃ (Q : List Nat) (F1 : Nat → Nat × Nat) (z1 : Nat → Nat), k = 50 ∧ evI S S1 F F1 t z z1 Y R kz n a nu PP.length ∧ evT (R.Q.G n) PP Q ∧ ¬ relP (R.Q.G n) Q ∧ stW S1 z1 ((R.Q.G n).jn Q) ∧ lo = [(0, .inr (.inr (some t))), (1, .inr (.inr (some g))), (2, .inl (nI s)), (4, .inr (.inl (lN nu))), (6, .inr (.inl (lN ix))), (8, .inl c), (9, .inl (nI a))] ∧ st = [] ∧ cs = evC1 kz (R.Q.G n) a nu PP.length ∧ sl = evC2 kz (R.Q.G n) a nu PP.length
def I_ev11 (t g s k9 : Nat) (c : Int32) (F : Nat → Nat × Nat) (z : Nat → Nat) (Y : Nat → Nat → Nat) (R : Rb) (kz : Nat → Nat) (n a nu ix kd : Nat) (PP : List (Nat × Nat)) (oc : Option Nat) (S : MM) (k : Nat) : KT := fun lo st S1 cs sl => ∃ (Q : List Nat) (v : Int32) (F1 : Nat → Nat × Nat) (z1 : Nat → Nat), k = 40 ∧ evI S S1 F F1 t z z1 Y R kz n a nu PP.length ∧ evT (R.Q.G n) PP Q ∧ ¬ relP (R.Q.G n) Q ∧ stW S1 z1 ((R.Q.G n).jn Q) ∧ slR (R.Q.G n) a v ∧ ¬ (∃ s, s < (R.Q.G n).m ∧ (R.Q.G n).ag s = a ∧ (R.Q.G n).jn Q s ≠ nu) ∧ lo = [(0, .inr (.inr (some t))), (1, .inr (.inr (some g))), (2, .inl (nI s)), (4, .inr (.inl (lN nu))), (6, .inr (.inl (lN ix))), (8, .inl c), (9, .inl (nI a)), (11, .inl v)] ∧ st = [] ∧ cs = evC1 kz (R.Q.G n) a nu PP.length ∧ sl = evC2 kz (R.Q.G n) a nu PP.length
def I_ev12 (t g s k9 : Nat) (c : Int32) (F : Nat → Nat × Nat) (z : Nat → Nat) (Y : Nat → Nat → Nat) (R : Rb) (kz : Nat → Nat) (n a nu ix kd : Nat) (PP : List (Nat × Nat)) (oc : Option Nat) (S : MM) (k : Nat) : KT := fun lo st S1 cs sl => ∃ (Q : List Nat) (v : Int32) (F1 : Nat → Nat × Nat) (z1 : Nat → Nat), k = 30 ∧ evI S S1 F F1 t z z1 Y R kz n a nu PP.length ∧ evT (R.Q.G n) PP Q ∧ ¬ relP (R.Q.G n) Q ∧ stW S1 z1 ((R.Q.G n).jn Q) ∧ slR (R.Q.G n) a v ∧ ¬ (∃ s, s < (R.Q.G n).m ∧ (R.Q.G n).ag s = a ∧ (R.Q.G n).jn Q s ≠ nu) ∧ ¬ (c1 (R.Q.G n) ((R.Q.G n).jn Q) (R.Q.G n).n < ix ∨ (ix = c1 (R.Q.G n) ((R.Q.G n).jn Q) (R.Q.G n).n ∧ ¬ oc ≠ none)) ∧ lo = [(0, .inr (.inr (some t))), (1, .inr (.inr (some g))), (2, .inl (nI s)), (6, .inr (.inl (lN ix))), (8, .inl c), (9, .inl (nI a)), (11, .inl v)] ∧ st = [] ∧ cs = evC1 kz (R.Q.G n) a nu PP.length ∧ sl = evC2 kz (R.Q.G n) a nu PP.length
def I_ev13 (t g s k9 : Nat) (c : Int32) (F : Nat → Nat × Nat) (z : Nat → Nat) (Y : Nat → Nat → Nat) (R : Rb) (kz : Nat → Nat) (n a nu ix kd : Nat) (PP : List (Nat × Nat)) (oc : Option Nat) (S : MM) (k : Nat) : KT := fun lo st S1 cs sl => ∃ (Q : List Nat) (F1 : Nat → Nat × Nat) (z1 : Nat → Nat), k = 20 ∧ evI S S1 F F1 t z z1 Y R kz n a nu PP.length ∧ evT (R.Q.G n) PP Q ∧ stW S1 z1 ((R.Q.G n).jn Q) ∧ fltV (R.Q.G n) a nu ix Q (oc ≠ none) = 0 ∧ Q.length ≤ 16 ∧ lo = [(0, .inr (.inr (some t))), (1, .inr (.inr (some g))), (2, .inl (nI s)), (6, .inr (.inl (lN ix))), (8, .inl c), (9, .inl (nI a))] ∧ st = [] ∧ cs = evC1 kz (R.Q.G n) a nu PP.length ∧ sl = evC2 kz (R.Q.G n) a nu PP.length
def T_revt : TR := fun Rc Rs av S cs sl K _Kx => match av with
  | [.inr (.inr t_o), .inr (.inr g_o), .inl s_v, .inl k9_v, .inr (.inl num), .inr (.inl ind), .inl c] => pa t_o fun t => (pa g_o fun g => (∃ (s : Nat), s_v = nI s ∧ (∃ (k9 : Nat), k9_v = nI k9 ∧ (∃ (F : Nat → Nat × Nat) (z : Nat → Nat) (Y : Nat → Nat → Nat) (R : Rb) (kz : Nat → Nat) (n a nu ix kd : Nat) (PP : List (Nat × Nat)) (oc : Option Nat), (MD S F t z Y R kz ∧ g = Y n 0 ∧ num = lN nu ∧ ind = lN ix ∧ evD S z kz s k9 a nu kd PP ∧ evP R n a nu ix kd k9 PP oc c) ∧ cs + (nc_e1 kz (R.Q.G n) a nu ix PP oc) ≤ Rc ∧ sl + (nc_e2 kz (R.Q.G n) a nu ix PP oc) ≤ Rs ∧ (∀ (v : Int32) (S' : MM), (evQ S S' F t z Y R kz n a nu ix PP oc v) → K (some (.inl v)) S' (cs + (nc_e1 kz (R.Q.G n) a nu ix PP oc)) (sl + (nc_e2 kz (R.Q.G n) a nu ix PP oc)))))))
  | _ => False
noncomputable def sp_revt (t : Nat) (g : Nat) (s : Nat) (k9 : Nat) (num : Int64) (ind : Int64) (c : Int32) (F : Nat → Nat × Nat) (z : Nat → Nat) (Y : Nat → Nat → Nat) (R : Rb) (kz : Nat → Nat) (n a nu ix kd : Nat) (PP : List (Nat × Nat)) (oc : Option Nat) : Sp := (fun av S => av = [.inr (.inr (some t)), .inr (.inr (some g)), .inl (nI s), .inl (nI k9), .inr (.inl num), .inr (.inl ind), .inl c] ∧ (MD S F t z Y R kz ∧ g = Y n 0 ∧ num = lN nu ∧ ind = lN ix ∧ evD S z kz s k9 a nu kd PP ∧ evP R n a nu ix kd k9 PP oc c), fun _ S => nc_e1 kz (R.Q.G n) a nu ix PP oc, fun _ S => nc_e2 kz (R.Q.G n) a nu ix PP oc, fun _ S rv S' => ∃ v, rv = (some (.inl v)) ∧ (evQ S S' F t z Y R kz n a nu ix PP oc v), fun _ _ _ _ => False)
theorem revt_no {t g s k9 : Nat} {num ind : Int64} {c : Int32} {F : Nat → Nat × Nat} {z : Nat → Nat} {Y : Nat → Nat → Nat} {R : Rb} {kz : Nat → Nat} {n a nu ix kd : Nat} {PP : List (Nat × Nat)} {oc : Option Nat} {S S1 : MM} {F1 : Nat → Nat × Nat} {z1 : Nat → Nat} (hM : MD S1 F1 t z1 Y R (evZ kz (R.Q.G n) a nu PP.length)) (hG : rG [24, 15] [] S S1 F F1 t z z1) (f : Nat) (hf : f = nc_eV (R.Q.G n) a nu ix PP (oc ≠ none)) (h0 : f ≠ 0) (h8 : f < 8) {cs sl : Nat} (hc : cs ≤ evC1 kz (R.Q.G n) a nu PP.length) (hs : sl ≤ evC2 kz (R.Q.G n) a nu PP.length) : ([] : List MV) = [] ∧ mret (some .int) (sp_revt t g s k9 num ind c F z Y R kz n a nu ix kd PP oc) [.inr (.inr (some t)), .inr (.inr (some g)), .inl (nI s), .inl (nI k9), .inr (.inl num), .inr (.inl ind), .inl c] S (some (.inl (nI f))) S1 cs sl := by
  refine ⟨rfl, trivial, ⟨nI f, rfl, f, F1, z1, Y, R.Q.G n, R.Q.T n, rfl, h8, ⟨hf, Or.inl ⟨h0, rfl, rfl⟩⟩, by rw [sG_id]; exact hM, hG.rh n, fun _ => rfl⟩, Nat.le_trans hc (Nat.le_add_right _ _), Nat.le_trans hs (Nat.le_add_right _ _)⟩
theorem evI.no {t g s k9 : Nat} {num ind : Int64} {c : Int32} {F : Nat → Nat × Nat} {z : Nat → Nat} {Y : Nat → Nat → Nat} {R : Rb} {kz : Nat → Nat} {n a nu ix kd : Nat} {PP : List (Nat × Nat)} {oc : Option Nat} {S S1 : MM} {F1 : Nat → Nat × Nat} {z1 : Nat → Nat} (h : evI S S1 F F1 t z z1 Y R kz n a nu PP.length) (f : Nat) (hf : f = nc_eV (R.Q.G n) a nu ix PP (oc ≠ none)) (h0 : f ≠ 0) (h8 : f < 8) : ([] : List MV) = [] ∧ mret (some .int) (sp_revt t g s k9 num ind c F z Y R kz n a nu ix kd PP oc) [.inr (.inr (some t)), .inr (.inr (some g)), .inl (nI s), .inl (nI k9), .inr (.inl num), .inr (.inl ind), .inl c] S (some (.inl (nI f))) S1 (evC1 kz (R.Q.G n) a nu PP.length) (evC2 kz (R.Q.G n) a nu PP.length) := revt_no h.1 h.2.1 f hf h0 h8 (Nat.le_refl _) (Nat.le_refl _)
theorem evI.flt {S S1 : MM} {F F1 : Nat → Nat × Nat} {t : Nat} {z z1 : Nat → Nat} {Y : Nat → Nat → Nat} {R : Rb} {kz : Nat → Nat} {n a nu ix m : Nat} {PP : List (Nat × Nat)} {Q : List Nat} {ins : Prop} (h : evI S S1 F F1 t z z1 Y R kz n a nu m) (hT : evT (R.Q.G n) PP Q) {f : Nat} (hf : fltV (R.Q.G n) a nu ix Q ins = f) : f = nc_eV (R.Q.G n) a nu ix PP ins := by
  rw [nc_eV3 (by rw [h.2.2]; exact Nat.lt_irrefl _) hT.2.1, hf]
theorem le_e1 {kz : Nat → Nat} {G : Gr} {a nu ix : Nat} {PP : List (Nat × Nat)} {oc : Option Nat} : evC1 kz G a nu PP.length ≤ nc_e1 kz G a nu ix PP oc ∧ evC2 kz G a nu PP.length ≤ nc_e2 kz G a nu ix PP oc := ⟨Nat.le_add_right _ _, Nat.le_add_right _ _⟩
def tX14_event : CD := [(0, .aload_n 0), (1, .getfield 103), (4, .iload_n 2), (5, .iaload), (6, .istore 9), (8, .iload_n 3), (9, .ifCond .le 7), (12, .iconst 1), (13, .goto 9), (16, .aload_n 0), (17, .getfield 109), (20, .iload_n 2), (21, .iaload), (22, .istore 10), (24, .lload 4), (26, .aload_n 1), (27, .iload 9), (29, .invokevirtual 218), (32, .i2l), (33, .lcmp), (34, .ifCond .le 5), (37, .iconst 5), (38, .ireturn), (39, .iload 10), (41, .aload_n 0), (42, .getfield 73), (45, .arraylength), (46, .if_icmp .le 13), (49, .aload_n 0), (50, .iconst 2), (51, .iload 10), (53, .imul), (54, .newarray .int), (56, .putfield 73), (59, .iconst 0), (60, .istore 11), (62, .iload 11), (64, .iload 10), (66, .if_icmp .ge 102), (69, .iload_n 3), (70, .ifCond .le 8), (73, .iload 9), (75, .goto 17), (78, .aload_n 0), (79, .getfield 125), (82, .aload_n 0), (83, .getfield 112), (86, .iload_n 2), (87, .iaload), (88, .iload 11), (90, .iadd), (91, .iaload), (92, .istore 12), (94, .iload_n 3), (95, .ifCond .le 10), (98, .lload 4), (100, .lconst 1), (101, .lsub), (102, .goto 17), (105, .aload_n 0), (106, .getfield 128), (109, .aload_n 0), (110, .getfield 112), (113, .iload_n 2), (114, .iaload), (115, .iload 11), (117, .iadd), (118, .laload), (119, .lstore 13), (121, .aload_n 0), (122, .getfield 73), (125, .iload 11), (127, .lload 13), (129, .ldc2_w 474), (132, .lcmp), (133, .ifCond .le 7), (136, .iconst (-1)), (137, .goto 12), (140, .aload_n 1), (141, .iload 12), (143, .lload 13), (145, .l2i), (146, .invokevirtual 242), (149, .iastore), (150, .aload_n 0), (151, .getfield 73), (154, .iload 11), (156, .iaload), (157, .ifCond .ge 5), (160, .iconst 5), (161, .ireturn), (162, .iinc 11 1), (165, .goto (-103)), (168, .aload_n 0), (169, .getfield 48), (172, .iconst 0), (173, .invokestatic 493), (176, .iconst 0), (177, .istore 11), (179, .iload 11), (181, .iload 10), (183, .if_icmp .ge 165), (186, .iconst 0), (187, .istore 12), (189, .iload 12), (191, .iload 10), (193, .if_icmp .ge 57), (196, .iload 12), (198, .iload 11), (200, .if_icmp .eq 44), (203, .aload_n 0), (204, .getfield 73), (207, .iload 12), (209, .iaload), (210, .aload_n 0), (211, .getfield 73), (214, .iload 11), (216, .iaload), (217, .if_icmp .eq 24), (220, .aload_n 1), (221, .aload_n 0), (222, .getfield 73), (225, .iload 11), (227, .iaload), (228, .aload_n 0), (229, .getfield 73), (232, .iload 12), (234, .iaload), (235, .invokevirtual 281), (238, .ifCond .eq 6), (241, .bipush 6), (243, .ireturn), (244, .iinc 12 1), (247, .goto (-58)), (250, .iconst 0), (251, .istore 12), (253, .iload 12), (255, .bipush 16), (257, .if_icmp .ge 85), (260, .iload 12), (262, .aload_n 1), (263, .getfield 268), (266, .aload_n 0), (267, .getfield 73), (270, .iload 11), (272, .iaload), (273, .iaload), (274, .if_icmp .ne 20), (277, .aload_n 1), (278, .getfield 271), (281, .aload_n 0), (282, .getfield 73), (285, .iload 11), (287, .iaload), (288, .iaload), (289, .iconst 1), (290, .iadd), (291, .goto 21), (294, .aload_n 1), (295, .getfield 342), (298, .bipush 16), (300, .aload_n 0), (301, .getfield 73), (304, .iload 11), (306, .iaload), (307, .imul), (308, .iload 12), (310, .iadd), (311, .saload), (312, .istore 13), (314, .iload 13), (316, .aload_n 0), (317, .getfield 48), (320, .iload 12), (322, .saload), (323, .if_icmp .le 13), (326, .aload_n 0), (327, .getfield 48), (330, .iload 12), (332, .iload 13), (334, .i2s), (335, .sastore), (336, .iinc 12 1), (339, .goto (-86)), (342, .iinc 11 1), (345, .goto (-166)), (348, .aload_n 1), (349, .iload 9), (351, .invokevirtual 176), (354, .istore 11), (356, .lload 4), (358, .lconst 0), (359, .lcmp), (360, .ifCond .le 20), (363, .aload_n 0), (364, .getfield 48), (367, .iload 11), (369, .saload), (370, .i2l), (371, .lload 4), (373, .lcmp), (374, .ifCond .ge 6), (377, .bipush 6), (379, .ireturn), (380, .aload_n 1), (381, .aload_n 0), (382, .getfield 48), (385, .iconst 0), (386, .invokevirtual 496), (389, .istore 12), (391, .aload_n 0), (392, .getfield 106), (395, .iload_n 2), (396, .iaload), (397, .ifCond .ne 15), (400, .lload 6), (402, .iload 12), (404, .i2l), (405, .lcmp), (406, .ifCond .le 18), (409, .goto 12), (412, .lload 6), (414, .iload 12), (416, .i2l), (417, .lcmp), (418, .ifCond .lt 6), (421, .bipush 6), (423, .ireturn), (424, .aload_n 1), (425, .getfield 173), (428, .sipush 8192), (431, .if_icmp .eq 17), (434, .iload 11), (436, .ifCond .ge 15), (439, .aload_n 1), (440, .getfield 180), (443, .bipush 16), (445, .if_icmp .ne 6), (448, .bipush 7), (450, .ireturn), (451, .aload_n 1), (452, .iload 9), (454, .aload_n 0), (455, .getfield 48), (458, .iconst 0), (459, .invokevirtual 186), (462, .istore 13), (464, .aload_n 0), (465, .getfield 106), (468, .iload_n 2), (469, .iaload), (470, .ifCond .ne 17), (473, .aload_n 1), (474, .iload 13), (476, .lload 6), (478, .l2i), (479, .iload 8), (481, .invokevirtual 224), (484, .goto 12), (487, .aload_n 1), (488, .iload 13), (490, .lload 6), (492, .l2i), (493, .invokevirtual 232), (496, .iconst 0), (497, .ireturn)]
set_option maxRecDepth 100000 in
theorem kX14_event : chk cX14_event tX14_event = true := by decide +kernel
theorem vX14_event_218 : ∀ w ∈ ([.methodLink RX14 218 yX12_countOf, .instanceMethod yX12_countOf, .selects yX12_countOf.cls yX12_countOf yX12_countOf, .initialized yX12_countOf.cls, .code yX12_countOf cX12_countOf 3 (some .int)] : List Cond), w ∈ lw_good := List.forall_mem_cons.mpr ⟨mgd 1979 (by decide +kernel) (by decide +kernel), List.forall_mem_cons.mpr ⟨mgd 1980 (by decide +kernel) (by decide +kernel), List.forall_mem_cons.mpr ⟨mgd 1981 (by decide +kernel) (by decide +kernel), List.forall_mem_cons.mpr ⟨mgd 138 (by decide +kernel) (by decide +kernel), List.forall_mem_cons.mpr ⟨mgd 1982 (by decide +kernel) (by decide +kernel), fun _ h => absurd h List.not_mem_nil⟩⟩⟩⟩⟩
theorem vX14_event_242 : ∀ w ∈ ([.methodLink RX14 242 yX12_find, .instanceMethod yX12_find, .selects yX12_find.cls yX12_find yX12_find, .initialized yX12_find.cls, .code yX12_find cX12_find 4 (some .int)] : List Cond), w ∈ lw_good := List.forall_mem_cons.mpr ⟨mgd 2070 (by decide +kernel) (by decide +kernel), List.forall_mem_cons.mpr ⟨mgd 2071 (by decide +kernel) (by decide +kernel), List.forall_mem_cons.mpr ⟨mgd 2072 (by decide +kernel) (by decide +kernel), List.forall_mem_cons.mpr ⟨mgd 138 (by decide +kernel) (by decide +kernel), List.forall_mem_cons.mpr ⟨mgd 2073 (by decide +kernel) (by decide +kernel), fun _ h => absurd h List.not_mem_nil⟩⟩⟩⟩⟩
theorem vX14_event_493 : ∀ w ∈ ([.methodLink RX14 493 yJ7_fill_fb410, .static yJ7_fill_fb410, .initialized yJ7_fill_fb410.cls, .code yJ7_fill_fb410 cJ7_fill_fb410 4 none] : List Cond), w ∈ lw_good := List.forall_mem_cons.mpr ⟨mgd 2413 (by decide +kernel) (by decide +kernel), List.forall_mem_cons.mpr ⟨mgd 2414 (by decide +kernel) (by decide +kernel), List.forall_mem_cons.mpr ⟨mgd 135 (by decide +kernel) (by decide +kernel), List.forall_mem_cons.mpr ⟨mgd 2415 (by decide +kernel) (by decide +kernel), fun _ h => absurd h List.not_mem_nil⟩⟩⟩⟩
theorem vX14_event_281 : ∀ w ∈ ([.methodLink RX14 281 yX12_isBefore, .instanceMethod yX12_isBefore, .selects yX12_isBefore.cls yX12_isBefore yX12_isBefore, .initialized yX12_isBefore.cls, .code yX12_isBefore cX12_isBefore 3 (some .boolean)] : List Cond), w ∈ lw_good := List.forall_mem_cons.mpr ⟨mgd 2162 (by decide +kernel) (by decide +kernel), List.forall_mem_cons.mpr ⟨mgd 2151 (by decide +kernel) (by decide +kernel), List.forall_mem_cons.mpr ⟨mgd 2152 (by decide +kernel) (by decide +kernel), List.forall_mem_cons.mpr ⟨mgd 138 (by decide +kernel) (by decide +kernel), List.forall_mem_cons.mpr ⟨mgd 2153 (by decide +kernel) (by decide +kernel), fun _ h => absurd h List.not_mem_nil⟩⟩⟩⟩⟩
theorem vX14_event_176 : ∀ w ∈ ([.methodLink RX14 176 yX12_slotOf, .instanceMethod yX12_slotOf, .selects yX12_slotOf.cls yX12_slotOf yX12_slotOf, .initialized yX12_slotOf.cls, .code yX12_slotOf cX12_slotOf 3 (some .int)] : List Cond), w ∈ lw_good := List.forall_mem_cons.mpr ⟨mgd 1975 (by decide +kernel) (by decide +kernel), List.forall_mem_cons.mpr ⟨mgd 1976 (by decide +kernel) (by decide +kernel), List.forall_mem_cons.mpr ⟨mgd 1977 (by decide +kernel) (by decide +kernel), List.forall_mem_cons.mpr ⟨mgd 138 (by decide +kernel) (by decide +kernel), List.forall_mem_cons.mpr ⟨mgd 1978 (by decide +kernel) (by decide +kernel), fun _ h => absurd h List.not_mem_nil⟩⟩⟩⟩⟩
theorem vX14_event_496 : ∀ w ∈ ([.methodLink RX14 496 yX12_seenMany, .instanceMethod yX12_seenMany, .selects yX12_seenMany.cls yX12_seenMany yX12_seenMany, .initialized yX12_seenMany.cls, .code yX12_seenMany cX12_seenMany 5 (some .int)] : List Cond), w ∈ lw_good := List.forall_mem_cons.mpr ⟨mgd 2416 (by decide +kernel) (by decide +kernel), List.forall_mem_cons.mpr ⟨mgd 2417 (by decide +kernel) (by decide +kernel), List.forall_mem_cons.mpr ⟨mgd 2418 (by decide +kernel) (by decide +kernel), List.forall_mem_cons.mpr ⟨mgd 138 (by decide +kernel) (by decide +kernel), List.forall_mem_cons.mpr ⟨mgd 2419 (by decide +kernel) (by decide +kernel), fun _ h => absurd h List.not_mem_nil⟩⟩⟩⟩⟩
theorem vX14_event_186 : ∀ w ∈ ([.methodLink RX14 186 yX12_add, .instanceMethod yX12_add, .selects yX12_add.cls yX12_add yX12_add, .initialized yX12_add.cls, .code yX12_add cX12_add 7 (some .int)] : List Cond), w ∈ lw_good := List.forall_mem_cons.mpr ⟨mgd 1992 (by decide +kernel) (by decide +kernel), List.forall_mem_cons.mpr ⟨mgd 1993 (by decide +kernel) (by decide +kernel), List.forall_mem_cons.mpr ⟨mgd 1994 (by decide +kernel) (by decide +kernel), List.forall_mem_cons.mpr ⟨mgd 138 (by decide +kernel) (by decide +kernel), List.forall_mem_cons.mpr ⟨mgd 1995 (by decide +kernel) (by decide +kernel), fun _ h => absurd h List.not_mem_nil⟩⟩⟩⟩⟩
theorem vX14_event_224 : ∀ w ∈ ([.methodLink RX14 224 yX12_insert, .instanceMethod yX12_insert, .selects yX12_insert.cls yX12_insert yX12_insert, .initialized yX12_insert.cls, .code yX12_insert cX12_insert 10 none] : List Cond), w ∈ lw_good := List.forall_mem_cons.mpr ⟨mgd 1997 (by decide +kernel) (by decide +kernel), List.forall_mem_cons.mpr ⟨mgd 1998 (by decide +kernel) (by decide +kernel), List.forall_mem_cons.mpr ⟨mgd 1999 (by decide +kernel) (by decide +kernel), List.forall_mem_cons.mpr ⟨mgd 138 (by decide +kernel) (by decide +kernel), List.forall_mem_cons.mpr ⟨mgd 2000 (by decide +kernel) (by decide +kernel), fun _ h => absurd h List.not_mem_nil⟩⟩⟩⟩⟩
theorem vX14_event_232 : ∀ w ∈ ([.methodLink RX14 232 yX12_erase, .instanceMethod yX12_erase, .selects yX12_erase.cls yX12_erase yX12_erase, .initialized yX12_erase.cls, .code yX12_erase cX12_erase 4 none] : List Cond), w ∈ lw_good := List.forall_mem_cons.mpr ⟨mgd 2053 (by decide +kernel) (by decide +kernel), List.forall_mem_cons.mpr ⟨mgd 2054 (by decide +kernel) (by decide +kernel), List.forall_mem_cons.mpr ⟨mgd 2055 (by decide +kernel) (by decide +kernel), List.forall_mem_cons.mpr ⟨mgd 138 (by decide +kernel) (by decide +kernel), List.forall_mem_cons.mpr ⟨mgd 2056 (by decide +kernel) (by decide +kernel), fun _ h => absurd h List.not_mem_nil⟩⟩⟩⟩⟩
set_option maxRecDepth 100000 in
set_option maxHeartbeats 2000000 in
theorem c_revt (l : Launch) : ∀ (t : Nat) (g : Nat) (s : Nat) (k9 : Nat) (num : Int64) (ind : Int64) (c : Int32) (F : Nat → Nat × Nat) (z : Nat → Nat) (Y : Nat → Nat → Nat) (R : Rb) (kz : Nat → Nat) (n a nu ix kd : Nat) (PP : List (Nat × Nat)) (oc : Option Nat), Ct l yX14_event cX14_event 15 (some .int) 4 101 (sp_revt t g s k9 num ind c F z Y R kz n a nu ix kd PP oc) := by
  intro t g s k9 num ind c F z Y R kz n a nu ix kd PP oc
  refine Ct.of (fX14, nX14, aX14, iX14, lX14, [(218, 0, 2, 1, T_rco), (242, 0, 3, 1, T_rfn), (493, 2, 2, 0, T_fillS), (281, 0, 3, 1, T_rib), (176, 0, 2, 1, T_rsl), (496, 0, 3, 1, T_rsm), (186, 0, 4, 1, T_rad), (224, 0, 4, 0, T_ris), (232, 0, 3, 0, T_rer)], qX14, gX14, []) false tX14_event (fun _ S => look [(24, ([0,1,2,3,4,6,8,9,10], I_ev1 t g s k9 c F z Y R kz n a nu ix kd PP oc S)), (59, ([0,1,2,3,4,6,8,9,10], I_ev2 t g s k9 c F z Y R kz n a nu ix kd PP oc S)), (62, ([0,1,2,3,4,6,8,9,10,11], I_ev3 t g s k9 c F z Y R kz n a nu ix kd PP oc S)), (121, ([0,1,2,3,4,6,8,9,10,11,12,13], I_ev4 t g s k9 c F z Y R kz n a nu ix kd PP oc S)), (150, ([0,1,2,3,4,6,8,9,10,11], I_ev5 t g s k9 c F z Y R kz n a nu ix kd PP oc S)), (179, ([0,1,2,4,6,8,9,10,11], I_ev6 t g s k9 c F z Y R kz n a nu ix kd PP oc S)), (189, ([0,1,2,4,6,8,9,10,11,12], I_ev7 t g s k9 c F z Y R kz n a nu ix kd PP oc S)), (253, ([0,1,2,4,6,8,9,10,11,12], I_ev8 t g s k9 c F z Y R kz n a nu ix kd PP oc S)), (314, ([0,1,2,4,6,8,9,10,11,12,13], I_ev9 t g s k9 c F z Y R kz n a nu ix kd PP oc S)), (348, ([0,1,2,4,6,8,9], I_ev10 t g s k9 c F z Y R kz n a nu ix kd PP oc S)), (380, ([0,1,2,4,6,8,9,11], I_ev11 t g s k9 c F z Y R kz n a nu ix kd PP oc S)), (424, ([0,1,2,6,8,9,11], I_ev12 t g s k9 c F z Y R kz n a nu ix kd PP oc S)), (451, ([0,1,2,6,8,9], I_ev13 t g s k9 c F z Y R kz n a nu ix kd PP oc S))]) (by decide) (by decide) kX14_event ⟨_, _, rfl⟩ fX14_ok nX14_ok aX14_ok iX14_ok lX14_ok (fun p e R s m args below meth c Q D cy z r A C hR1 hR2 => List.forall_mem_cons.mpr ⟨cOK_use (fun _ _ _ _ _ _ _ _ h => let ⟨sp, h1, h2, h3⟩ := u_rco l _ _ _ _ _ _ _ _ h; ⟨sp, cOK_V C h1 vX14_event_218 ⟨by decide, by decide, by decide +kernel⟩ ⟨by rw [hR1]; decide, by rw [hR2]; decide⟩ (k := 13) (T := TX12) (N := 27) rfl (by decide) h2, h3⟩), List.forall_mem_cons.mpr ⟨cOK_use (fun _ _ _ _ _ _ _ _ h => let ⟨sp, h1, h2, h3⟩ := u_rfn l _ _ _ _ _ _ _ _ h; ⟨sp, cOK_V C h1 vX14_event_242 ⟨by decide, by decide, by decide +kernel⟩ ⟨by rw [hR1]; decide, by rw [hR2]; decide⟩ (k := 13) (T := TX12) (N := 27) rfl (by decide) h2, h3⟩), List.forall_mem_cons.mpr ⟨cOK_use (fun _ _ _ _ _ _ _ _ h => let ⟨sp, h1, _, h3⟩ := u_fillS l _ _ _ _ _ _ _ _ h; ⟨sp, cOK_S C h1 vX14_event_493 ⟨by decide, by decide, by decide +kernel⟩ ⟨by rw [hR1]; decide, by rw [hR2]; decide⟩, h3⟩), List.forall_mem_cons.mpr ⟨cOK_use (fun _ _ _ _ _ _ _ _ h => let ⟨sp, h1, h2, h3⟩ := u_rib l _ _ _ _ _ _ _ _ h; ⟨sp, cOK_V C h1 vX14_event_281 ⟨by decide, by decide, by decide +kernel⟩ ⟨by rw [hR1]; decide, by rw [hR2]; decide⟩ (k := 13) (T := TX12) (N := 27) rfl (by decide) h2, h3⟩), List.forall_mem_cons.mpr ⟨cOK_use (fun _ _ _ _ _ _ _ _ h => let ⟨sp, h1, h2, h3⟩ := u_rsl l _ _ _ _ _ _ _ _ h; ⟨sp, cOK_V C h1 vX14_event_176 ⟨by decide, by decide, by decide +kernel⟩ ⟨by rw [hR1]; decide, by rw [hR2]; decide⟩ (k := 13) (T := TX12) (N := 27) rfl (by decide) h2, h3⟩), List.forall_mem_cons.mpr ⟨cOK_use (fun _ _ _ _ _ _ _ _ h => let ⟨sp, h1, h2, h3⟩ := u_rsm l _ _ _ _ _ _ _ _ h; ⟨sp, cOK_V C h1 vX14_event_496 ⟨by decide, by decide, by decide +kernel⟩ ⟨by rw [hR1]; decide, by rw [hR2]; decide⟩ (k := 13) (T := TX12) (N := 27) rfl (by decide) h2, h3⟩), List.forall_mem_cons.mpr ⟨cOK_use (fun _ _ _ _ _ _ _ _ h => let ⟨sp, h1, h2, h3⟩ := u_rad l _ _ _ _ _ _ _ _ h; ⟨sp, cOK_V C h1 vX14_event_186 ⟨by decide, by decide, by decide +kernel⟩ ⟨by rw [hR1]; decide, by rw [hR2]; decide⟩ (k := 13) (T := TX12) (N := 27) rfl (by decide) h2, h3⟩), List.forall_mem_cons.mpr ⟨cOK_use (fun _ _ _ _ _ _ _ _ h => let ⟨sp, h1, h2, h3⟩ := u_ris l _ _ _ _ _ _ _ _ h; ⟨sp, cOK_V C h1 vX14_event_224 ⟨by decide, by decide, by decide +kernel⟩ ⟨by rw [hR1]; decide, by rw [hR2]; decide⟩ (k := 13) (T := TX12) (N := 27) rfl (by decide) h2, h3⟩), List.forall_mem_cons.mpr ⟨cOK_use (fun _ _ _ _ _ _ _ _ h => let ⟨sp, h1, h2, h3⟩ := u_rer l _ _ _ _ _ _ _ _ h; ⟨sp, cOK_V C h1 vX14_event_232 ⟨by decide, by decide, by decide +kernel⟩ ⟨by rw [hR1]; decide, by rw [hR2]; decide⟩ (k := 13) (T := TX12) (N := 27) rfl (by decide) h2, h3⟩), fun _ h => absurd h List.not_mem_nil⟩⟩⟩⟩⟩⟩⟩⟩⟩) qX14_ok gX14_ok rfl ?_ ?_
  · rintro _ S ⟨rfl, hp⟩
    refine ⟨Nat.le_of_ble_eq_true rfl, 300, ?_⟩
    show (isO S 15 t ∧ (pa (mR S 1540 t) fun a_1 => ∃ v_2 : Int32, (isO S 17 a_1 ∧ inR S a_1 (nI s) ∧ v_2 = eI S a_1 (nI s).toNatClampNeg ∨ a_1 = (mQ S).1 ∧ vp_in (nI s) 16 ∧ v_2 = mRem (nI s).toNatClampNeg) ∧ (((nI k9) ≤ 0 → (isO S 15 t ∧ (pa (mR S 1542 t) fun a_3 => ∃ v_4 : Int32, (isO S 17 a_3 ∧ inR S a_3 (nI s) ∧ v_4 = eI S a_3 (nI s).toNatClampNeg ∨ a_3 = (mQ S).1 ∧ vp_in (nI s) 16 ∧ v_4 = mRem (nI s).toNatClampNeg) ∧ (∃ k1, I_ev1 t g s k9 c F z Y R kz n a nu ix kd PP oc S k1 [(0, .inr (.inr (some t))), (1, .inr (.inr (some g))), (2, .inl (nI s)), (3, .inl (nI k9)), (4, .inr (.inl num)), (6, .inr (.inl ind)), (8, .inl c), (9, .inl v_2), (10, .inl v_4)] [] S 0 0)))) ∧ (¬ (nI k9) ≤ 0 → (∃ k1, I_ev1 t g s k9 c F z Y R kz n a nu ix kd PP oc S k1 [(0, .inr (.inr (some t))), (1, .inr (.inr (some g))), (2, .inl (nI s)), (3, .inl (nI k9)), (4, .inr (.inl num)), (6, .inr (.inl ind)), (8, .inl c), (9, .inl v_2), (10, .inl (1 : Int32))] [] S 0 0)))))
    obtain ⟨hM, rfl, rfl, rfl, ⟨hs, d1, d2, d3⟩, hn, ha, hnu, hix, hge, hPl, hPP, hk9, -, hGT⟩ := hp
    have hk40 : kz 40 ≤ 131072 := (hM 11).2.2.2.1
    have r40 := hM 1 40 (by decide)
    have r42 := hM 1 42 (by decide)
    have n40 : mN S (z 40) = kz 40 := r40.2.2.2
    have n42 : mN S (z 42) = kz 40 := r42.2.2.2
    have cs : (nI s).toNatClampNeg = s := nI_clamp (by omega)
    refine ⟨(hM 0).1, rdI (v := nI a) r40.1 r40.2.2.1 (inRn n40 hs (by omega)) (by rw [cs]; exact d1) ⟨fun w => ?_, fun w => ?_⟩⟩
    · have k0 : k9 = 0 := by
        have := (nI_leI (b := 0) hk9 (by decide)).1 w
        omega
      rcases d3 with ⟨w1, -⟩ | ⟨-, d4, -⟩
      · omega
      · exact ⟨(hM 0).1, rdI (v := nI PP.length) r42.1 r42.2.2.1 (inRn n42 hs (by omega)) (by rw [cs]; exact d4) ⟨50000000000, rfl, rfl, rfl, rfl, rfl, rfl⟩⟩
    · have k0 : k9 ≠ 0 := fun e => w (by rw [e]; exact Int32.le_refl _)
      rcases d3 with ⟨w1, w2, w3⟩ | ⟨e, -⟩
      · exact ⟨50000000000, rfl, rfl, by rw [w3]; rfl, rfl, rfl, rfl⟩
      · exact absurd e k0
  · intro av S hpre pc I hI k lo st S1 cs sl h
    obtain ⟨rfl, hp⟩ := hpre
    have hm := look_in hI
    simp only [List.mem_cons, List.not_mem_nil, or_false] at hm
    rcases hm with hm | hm | hm | hm | hm | hm | hm | hm | hm | hm | hm | hm | hm
    · cases hm
      obtain ⟨rfl, rfl, rfl, rfl, rfl, rfl⟩ := h
      refine ⟨300, ?_⟩
      show (0 = 0 ∧ (∃ (a_1 : Nat), nI a = nI a_1 ∧ (∃ (F_2 : Nat → Nat × Nat) (i_3 : Nat) (y_4 : Nat → Nat) (G_5 : Gr) (T_6 : Tr), (g = y_4 0 ∧ RG S F_2 i_3 y_4 G_5 T_6 ∧ a_1 < 256) ∧ 0 ≤ nc_e1 kz (R.Q.G n) a nu ix PP oc ∧ 0 ≤ nc_e2 kz (R.Q.G n) a nu ix PP oc ∧ ((((lg_cmp (lN nu) ((nI (agE G_5 a_1).length).toInt64)) ≤ 0 → (isO S 15 t ∧ (pa (mR S 1524 t) fun a_8 => ∃ v_9 : Int32, (a_8 ∈ mL S ∧ ¬ mK S a_8 < 16 ∧ mK S a_8 < 29 ∧ v_9 = Int32.ofNat (mN S a_8) ∨ a_8 = mZ S ∧ v_9 = 0) ∧ (((nI PP.length) ≤ v_9 → (∃ k1, k1 < 50000000000 ∧ I_ev2 t g s k9 c F z Y R kz n a nu ix kd PP oc S k1 [(0, .inr (.inr (some t))), (1, .inr (.inr (some g))), (2, .inl (nI s)), (3, .inl (nI k9)), (4, .inr (.inl (lN nu))), (6, .inr (.inl (lN ix))), (8, .inl c), (9, .inl (nI a)), (10, .inl (nI PP.length))] [] S 0 0)) ∧ (¬ (nI PP.length) ≤ v_9 → (¬ ((2 : Int32) * (nI PP.length)) < 0 ∧ ((2 : Int32) * (nI PP.length)).toNatClampNeg * 8 ≤ 536870912 ∧ 0 + 1 ≤ nc_e1 kz (R.Q.G n) a nu ix PP oc ∧ 0 + ((2 : Int32) * (nI PP.length)).toNatClampNeg ≤ nc_e2 kz (R.Q.G n) a nu ix PP oc ∧ ∀ q_10, q_10 ∉ mL S → (True ∧ (isO (nA S q_10 17 ((2 : Int32) * (nI PP.length)).toNatClampNeg) 15 t ∧ (∃ k1, k1 < 50000000000 ∧ I_ev2 t g s k9 c F z Y R kz n a nu ix kd PP oc S k1 [(0, .inr (.inr (some t))), (1, .inr (.inr (some g))), (2, .inl (nI s)), (3, .inl (nI k9)), (4, .inr (.inl (lN nu))), (6, .inr (.inl (lN ix))), (8, .inl c), (9, .inl (nI a)), (10, .inl (nI PP.length))] [] (sR (nA S q_10 17 ((2 : Int32) * (nI PP.length)).toNatClampNeg) 1524 t (some q_10)) (0 + 1) (0 + ((2 : Int32) * (nI PP.length)).toNatClampNeg)))))))))) ∧ (¬ (lg_cmp (lN nu) ((nI (agE G_5 a_1).length).toInt64)) ≤ 0 → (([] : List MV) = [] ∧ mret (some .int) (sp_revt t g s k9 num ind c F z Y R kz n a nu ix kd PP oc) [.inr (.inr (some t)), .inr (.inr (some g)), .inl (nI s), .inl (nI k9), .inr (.inl num), .inr (.inl ind), .inl c] S (some (.inl (5 : Int32))) S 0 0)))))))
      obtain ⟨hM, rfl, hnum, hind, hD, hP⟩ := hp
      obtain ⟨hn, ha, hnu, hix, hge, hPl, hPP, hk9, -, hGT⟩ := id hP
      have g := (hM 2 n hn).2.1
      have h8 := agE_8192 g.ok a
      have r24 := hM 1 24 (by decide)
      have n24 : mN S (z 24) = kz 24 := r24.2.2.2
      obtain ⟨b1, b2, b3, b4, b5, b6⟩ := hM 11
      have hle : lg_cmp (lN nu) (lN (agE (R.Q.G n) a).length) ≤ 0 ↔ nu ≤ (agE (R.Q.G n) a).length := lgk (by omega) (by omega)
      refine ⟨rfl, a, rfl, F, 101 + n, Y n, R.Q.G n, R.Q.T n, ⟨rfl, g, ha⟩, Nat.zero_le _, Nat.zero_le _, ?_⟩
      rw [nI_l (by omega)]
      refine ⟨fun w => ?_, fun w => ?_⟩
      · have hnl := hle.1 w
        refine ⟨(hM 0).1, pa_i r24.1 ⟨nI (kz 24), Or.inl ⟨r24.2.2.1.1, by rw [r24.2.2.1.2]; decide, by rw [r24.2.2.1.2]; decide, by rw [n24]; rfl⟩, if_le (by omega) (by omega) (fun w2 => ?_) (fun w2 => ?_)⟩⟩
        · have e1 : evZ kz (R.Q.G n) a nu PP.length = kz := if_neg (fun q => by omega)
          have e2 : evC1 kz (R.Q.G n) a nu PP.length = 0 := if_neg (fun q => by omega)
          have e3 : evC2 kz (R.Q.G n) a nu PP.length = 0 := if_neg (fun q => by omega)
          exact ⟨40000000000, by decide, F, z, rfl, ⟨by rw [e1]; exact hM, rG.rf, by omega⟩, rfl, rfl, e2.symm, e3.symm⟩
        · have e1 : evZ kz (R.Q.G n) a nu PP.length = upF kz 24 (2 * PP.length) := if_pos ⟨hnl, w2⟩
          have e2 : evC1 kz (R.Q.G n) a nu PP.length = 1 := if_pos ⟨hnl, w2⟩
          have e3 : evC2 kz (R.Q.G n) a nu PP.length = 2 * PP.length := if_pos ⟨hnl, w2⟩
          have tw : (2 : Int32) * nI PP.length = nI (2 * PP.length) := nI_twice _
          have le := le_e1 (kz := kz) (G := R.Q.G n) (a := a) (nu := nu) (ix := ix) (PP := PP) (oc := oc)
          rw [e2, e3] at le
          have ct : (nI (2 * PP.length)).toNatClampNeg = 2 * PP.length := nI_clamp (by omega)
          rw [tw, ct]
          refine ⟨nI_pos (by omega), by omega, by omega, by omega, fun q hq => ⟨trivial, isO_nA (hM 0).1 hq, 40000000000, by decide, ?_⟩⟩
          exact ⟨_, _, rfl, evI.new hM hq hnl hge w2 hPl, rfl, rfl, e2.symm, by rw [e3, Nat.zero_add]⟩
      · have h5 := nc_eV1 (G := R.Q.G n) (a := a) (nu := nu) (ix := ix) (PP := PP) (ins := oc ≠ none) (Nat.lt_of_not_le (fun q => w (hle.2 q)))
        have e1 : evZ kz (R.Q.G n) a nu PP.length = kz := if_neg (fun q => w (hle.2 q.1))
        exact revt_no (by rw [e1]; exact hM) rG.rf 5 h5.symm (by decide) (by decide) (Nat.zero_le _) (Nat.zero_le _)
    · cases hm
      obtain ⟨F1, z1, rfl, hV, rfl, rfl, rfl, rfl⟩ := h
      refine ⟨300, ?_⟩
      show (∃ k1, k1 < 40000000000 ∧ I_ev3 t g s k9 c F z Y R kz n a nu ix kd PP oc S k1 [(0, .inr (.inr (some t))), (1, .inr (.inr (some g))), (2, .inl (nI s)), (3, .inl (nI k9)), (4, .inr (.inl (lN nu))), (6, .inr (.inl (lN ix))), (8, .inl c), (9, .inl (nI a)), (10, .inl (nI PP.length)), (11, .inl (0 : Int32))] [] S1 (evC1 kz (R.Q.G n) a nu PP.length) (evC2 kz (R.Q.G n) a nu PP.length))
      exact ⟨20000000000 + 10 * PP.length + 9, by obtain ⟨-, -, -, -, -, hP⟩ := hp; have := hP.2.2.2.2.2.1; omega, [], F1, z1, rfl, hV, ⟨Nat.zero_le _, rfl⟩, fun j hj => absurd hj (Nat.not_lt_zero j), rfl, rfl, rfl, rfl⟩
    · cases hm
      obtain ⟨Q, F1, z1, rfl, hV, hU, hF, rfl, rfl, rfl, rfl⟩ := h
      refine ⟨300, ?_⟩
      show (((nI PP.length) ≤ (nI Q.length) → (isO S1 15 t ∧ (2 = 2 ∧ ((pa (mR S1 1515 t) fun a_1 => ((isO S1 19 a_1 ∧ mN S1 a_1 < 2147483648 ∧ (0 : Int32) = 0) ∧ evC1 kz (R.Q.G n) a nu PP.length ≤ nc_e1 kz (R.Q.G n) a nu ix PP oc ∧ evC2 kz (R.Q.G n) a nu PP.length ≤ nc_e2 kz (R.Q.G n) a nu ix PP oc ∧ ((∃ k1, k1 < 20000000000 + 10 * (PP.length - Q.length) + 9 ∧ I_ev6 t g s k9 c F z Y R kz n a nu ix kd PP oc S k1 [(0, .inr (.inr (some t))), (1, .inr (.inr (some g))), (2, .inl (nI s)), (4, .inr (.inl (lN nu))), (6, .inr (.inl (lN ix))), (8, .inl c), (9, .inl (nI a)), (10, .inl (nI PP.length)), (11, .inl (0 : Int32))] [] (rI S1 a_1 (fillF (eI S1 a_1) (mN S1 a_1) 0)) (evC1 kz (R.Q.G n) a nu PP.length) (evC2 kz (R.Q.G n) a nu PP.length))))))))) ∧ (¬ (nI PP.length) ≤ (nI Q.length) → (((nI k9) ≤ 0 → (isO S1 15 t ∧ (isO S1 15 t ∧ (pa (mR S1 1543 t) fun a_3 => ∃ v_4 : Int32, (isO S1 17 a_3 ∧ inR S1 a_3 (nI s) ∧ v_4 = eI S1 a_3 (nI s).toNatClampNeg ∨ a_3 = (mQ S1).1 ∧ vp_in (nI s) 16 ∧ v_4 = mRem (nI s).toNatClampNeg) ∧ (pa (mR S1 1547 t) fun a_5 => ∃ v_6 : Int32, (isO S1 17 a_5 ∧ inR S1 a_5 (v_4 + (nI Q.length)) ∧ v_6 = eI S1 a_5 (v_4 + (nI Q.length)).toNatClampNeg ∨ a_5 = (mQ S1).1 ∧ vp_in (v_4 + (nI Q.length)) 16 ∧ v_6 = mRem (v_4 + (nI Q.length)).toNatClampNeg) ∧ (((nI k9) ≤ 0 → (isO S1 15 t ∧ (isO S1 15 t ∧ (pa (mR S1 1543 t) fun a_7 => ∃ v_8 : Int32, (isO S1 17 a_7 ∧ inR S1 a_7 (nI s) ∧ v_8 = eI S1 a_7 (nI s).toNatClampNeg ∨ a_7 = (mQ S1).1 ∧ vp_in (nI s) 16 ∧ v_8 = mRem (nI s).toNatClampNeg) ∧ (pa (mR S1 1548 t) fun a_9 => isO S1 18 a_9 ∧ inR S1 a_9 (v_8 + (nI Q.length)) ∧ (∃ k1, k1 < 20000000000 + 10 * (PP.length - Q.length) + 9 ∧ I_ev4 t g s k9 c F z Y R kz n a nu ix kd PP oc S k1 [(0, .inr (.inr (some t))), (1, .inr (.inr (some g))), (2, .inl (nI s)), (3, .inl (nI k9)), (4, .inr (.inl (lN nu))), (6, .inr (.inl (lN ix))), (8, .inl c), (9, .inl (nI a)), (10, .inl (nI PP.length)), (11, .inl (nI Q.length)), (12, .inl v_6), (13, .inr (.inl (eJ S1 a_9 (v_8 + (nI Q.length)).toNatClampNeg)))] [] S1 (evC1 kz (R.Q.G n) a nu PP.length) (evC2 kz (R.Q.G n) a nu PP.length))))))) ∧ (¬ (nI k9) ≤ 0 → (∃ k1, k1 < 20000000000 + 10 * (PP.length - Q.length) + 9 ∧ I_ev4 t g s k9 c F z Y R kz n a nu ix kd PP oc S k1 [(0, .inr (.inr (some t))), (1, .inr (.inr (some g))), (2, .inl (nI s)), (3, .inl (nI k9)), (4, .inr (.inl (lN nu))), (6, .inr (.inl (lN ix))), (8, .inl c), (9, .inl (nI a)), (10, .inl (nI PP.length)), (11, .inl (nI Q.length)), (12, .inl v_6), (13, .inr (.inl ((lN nu) - (1 : Int64))))] [] S1 (evC1 kz (R.Q.G n) a nu PP.length) (evC2 kz (R.Q.G n) a nu PP.length))))))))) ∧ (¬ (nI k9) ≤ 0 → (((nI k9) ≤ 0 → (isO S1 15 t ∧ (isO S1 15 t ∧ (pa (mR S1 1543 t) fun a_10 => ∃ v_11 : Int32, (isO S1 17 a_10 ∧ inR S1 a_10 (nI s) ∧ v_11 = eI S1 a_10 (nI s).toNatClampNeg ∨ a_10 = (mQ S1).1 ∧ vp_in (nI s) 16 ∧ v_11 = mRem (nI s).toNatClampNeg) ∧ (pa (mR S1 1548 t) fun a_12 => isO S1 18 a_12 ∧ inR S1 a_12 (v_11 + (nI Q.length)) ∧ (∃ k1, k1 < 20000000000 + 10 * (PP.length - Q.length) + 9 ∧ I_ev4 t g s k9 c F z Y R kz n a nu ix kd PP oc S k1 [(0, .inr (.inr (some t))), (1, .inr (.inr (some g))), (2, .inl (nI s)), (3, .inl (nI k9)), (4, .inr (.inl (lN nu))), (6, .inr (.inl (lN ix))), (8, .inl c), (9, .inl (nI a)), (10, .inl (nI PP.length)), (11, .inl (nI Q.length)), (12, .inl (nI a)), (13, .inr (.inl (eJ S1 a_12 (v_11 + (nI Q.length)).toNatClampNeg)))] [] S1 (evC1 kz (R.Q.G n) a nu PP.length) (evC2 kz (R.Q.G n) a nu PP.length))))))) ∧ (¬ (nI k9) ≤ 0 → (∃ k1, k1 < 20000000000 + 10 * (PP.length - Q.length) + 9 ∧ I_ev4 t g s k9 c F z Y R kz n a nu ix kd PP oc S k1 [(0, .inr (.inr (some t))), (1, .inr (.inr (some g))), (2, .inl (nI s)), (3, .inl (nI k9)), (4, .inr (.inl (lN nu))), (6, .inr (.inl (lN ix))), (8, .inl c), (9, .inl (nI a)), (10, .inl (nI PP.length)), (11, .inl (nI Q.length)), (12, .inl (nI a)), (13, .inr (.inl ((lN nu) - (1 : Int64))))] [] S1 (evC1 kz (R.Q.G n) a nu PP.length) (evC2 kz (R.Q.G n) a nu PP.length))))))))
      obtain ⟨hM, rfl, hnum, hind, hD, hP⟩ := hp
      obtain ⟨hn, ha, hnu, hix, hge, hPl, hPP, hk9, -, hGT⟩ := id hP
      have ds := hD.1
      obtain ⟨u1, u2⟩ := id hU
      have hMI := hV.1
      have hk40 : kz 40 ≤ 131072 := (hM 11).2.2.2.1
      have hk47 : kz 47 ≤ 131072 := (hM 11).2.2.2.2.2
      have le := le_e1 (kz := kz) (G := R.Q.G n) (a := a) (nu := nu) (ix := ix) (PP := PP) (oc := oc)
      refine if_le (by omega) (by omega) (fun w => ?_) (fun w => ?_)
      · have hl : Q.length = PP.length := by omega
        have r15 := hMI 1 15 (by decide)
        have n15 : mN S1 (z1 15) = 16 := r15.2.2.2
        rw [hl, List.take_length] at u2
        have hA := lkA_some u2
        have hT : evT (R.Q.G n) PP Q := ⟨hl, hA, fun e he => by
          have : some e ∈ Q.map some := List.mem_map.2 ⟨e, he, rfl⟩
          rw [← u2] at this
          obtain ⟨x, -, hx⟩ := List.mem_map.1 this
          exact lkE_lt hx⟩
        refine ⟨(hMI 0).1, rfl, pa_i r15.1 ⟨⟨r15.2.2.1, by rw [n15]; decide, rfl⟩, le.1, le.2, 100000 * (PP.length - 0) + 99999, by omega, Q, 0, F1, z1, rfl, hV.wr (Or.inr rfl) _, hT, hV.fd hF _, Nat.zero_le _, fun j' hj' => absurd hj' (Nat.not_lt_zero j'), fun s hs => ?_, rfl, rfl, rfl, rfl⟩⟩
        rw [eI_rI, if_pos rfl, n15]
        refine ⟨?_, Nat.zero_le _⟩
        show fillF (eI S1 (z1 15)) 16 0 s = nI 0
        unfold fillF
        rw [if_pos hs]; rfl
      · have go4 : ∀ v12 v13, v12 = nI (PP.getD Q.length (0, 0)).1 → v13 = lN (PP.getD Q.length (0, 0)).2 → ∃ k1, k1 < 20000000000 + 10 * (PP.length - Q.length) + 9 ∧ I_ev4 t (Y n 0) s k9 c F z Y R kz n a nu ix kd PP oc S k1 [(0, .inr (.inr (some t))), (1, .inr (.inr (some (Y n 0)))), (2, .inl (nI s)), (3, .inl (nI k9)), (4, .inr (.inl (lN nu))), (6, .inr (.inl (lN ix))), (8, .inl c), (9, .inl (nI a)), (10, .inl (nI PP.length)), (11, .inl (nI Q.length)), (12, .inl v12), (13, .inr (.inl v13))] [] S1 (evC1 kz (R.Q.G n) a nu PP.length) (evC2 kz (R.Q.G n) a nu PP.length) := fun v12 v13 e1 e2 => ⟨20000000000 + 10 * (PP.length - Q.length) + 8, by omega, Q, F1, z1, rfl, hV, hU, w, hF, by rw [e1, e2], rfl, rfl, rfl⟩
        have cs : (nI s).toNatClampNeg = s := nI_clamp (by omega)
        refine ⟨fun q => ?_, fun q => ⟨fun q2 => absurd q2 q, fun _ => ?_⟩⟩
        · have k0 : k9 = 0 := by
            have := (nI_leI (b := 0) hk9 (by decide)).1 q
            omega
          rcases hD.2.2.2 with ⟨w1, -⟩ | ⟨-, d4, fp, d5, d6, d7⟩
          · omega
          · obtain ⟨z43, e43, -, m43, o43, n43⟩ := hV.row hM (j := 43) (by decide) (by decide)
            obtain ⟨z47, e47, -, m47, o47, n47⟩ := hV.row hM (j := 47) (by decide) (by decide)
            obtain ⟨z48, -, e48, m48, o48, n48⟩ := hV.row hM (j := 48) (by decide) (by decide)
            have n43 : mN S1 (z1 43) = kz 40 := n43 (by decide)
            have n47 : mN S1 (z1 47) = kz 47 := n47 (by decide)
            have n48 : mN S1 (z1 48) = kz 47 := n48 (by decide)
            obtain ⟨f1, f2⟩ := d7 Q.length w
            have c43 : eI S1 (z1 43) (nI s).toNatClampNeg = nI fp := by rw [cs, e43]; exact d5
            have ca : nI fp + nI Q.length = nI (fp + Q.length) := nI_add _ _
            have cl : (nI (fp + Q.length)).toNatClampNeg = fp + Q.length := nI_clamp (by omega)
            refine ⟨(hMI 0).1, (hMI 0).1, rdI (v := nI fp) m43 o43 (inRn n43 ds (by omega)) c43 ?_⟩
            rw [ca]
            refine rdI (v := nI (PP.getD Q.length (0, 0)).1) m47 o47 (inRn n47 (by omega) (by omega)) (by rw [cl, e47]; exact f1) ⟨fun _ => ⟨(hMI 0).1, (hMI 0).1, rdI (v := nI fp) m43 o43 (inRn n43 ds (by omega)) c43 ?_⟩, fun q2 => absurd q q2⟩
            rw [ca]
            exact pa_i m48 ⟨o48, inRn n48 (by omega) (by omega), go4 _ _ rfl (by rw [cl, e48]; exact f2)⟩
        · have k0 : k9 ≠ 0 := fun e => q (by rw [e]; exact Int32.le_refl _)
          rcases hD.2.2.2 with ⟨w1, w2, w3⟩ | ⟨e, -⟩
          · have l0 : Q.length = 0 := by rw [w3] at w; have : Q.length < 1 := w; omega
            refine go4 _ _ ?_ ?_
            · rw [l0, w3]; rfl
            · rw [l0, w3]; exact lN_mi (b := 1) w2
          · exact absurd e k0
    · cases hm
      obtain ⟨Q, F1, z1, rfl, hV, hU, hlt, hF, rfl, rfl, rfl, rfl⟩ := h
      refine ⟨300, ?_⟩
      show (isO S1 15 t ∧ (((lg_cmp (lN (PP.getD Q.length (0, 0)).2) (8192 : Int64)) ≤ 0 → (0 = 0 ∧ (∃ (a_1 : Nat), nI (PP.getD Q.length (0, 0)).1 = nI a_1 ∧ (∃ (F_2 : Nat → Nat × Nat) (i_3 : Nat) (y_4 : Nat → Nat) (G_5 : Gr) (T_6 : Tr), (g = y_4 0 ∧ RG S1 F_2 i_3 y_4 G_5 T_6 ∧ a_1 < 256) ∧ evC1 kz (R.Q.G n) a nu PP.length ≤ nc_e1 kz (R.Q.G n) a nu ix PP oc ∧ evC2 kz (R.Q.G n) a nu PP.length ≤ nc_e2 kz (R.Q.G n) a nu ix PP oc ∧ ((pa (mR S1 1524 t) fun a_8 => isO S1 17 a_8 ∧ inR S1 a_8 (nI Q.length) ∧ (∃ k1, k1 < 20000000000 + 10 * (PP.length - Q.length) + 8 ∧ I_ev5 t g s k9 c F z Y R kz n a nu ix kd PP oc S k1 [(0, .inr (.inr (some t))), (1, .inr (.inr (some g))), (2, .inl (nI s)), (3, .inl (nI k9)), (4, .inr (.inl (lN nu))), (6, .inr (.inl (lN ix))), (8, .inl c), (9, .inl (nI a)), (10, .inl (nI PP.length)), (11, .inl (nI Q.length))] [] (rI S1 a_8 (upd (eI S1 a_8) (nI Q.length).toNatClampNeg (fnV G_5 a_1 ((lN (PP.getD Q.length (0, 0)).2).toInt32)))) (evC1 kz (R.Q.G n) a nu PP.length) (evC2 kz (R.Q.G n) a nu PP.length)))))))) ∧ (¬ (lg_cmp (lN (PP.getD Q.length (0, 0)).2) (8192 : Int64)) ≤ 0 → (pa (mR S1 1524 t) fun a_9 => isO S1 17 a_9 ∧ inR S1 a_9 (nI Q.length) ∧ (∃ k1, k1 < 20000000000 + 10 * (PP.length - Q.length) + 8 ∧ I_ev5 t g s k9 c F z Y R kz n a nu ix kd PP oc S k1 [(0, .inr (.inr (some t))), (1, .inr (.inr (some g))), (2, .inl (nI s)), (3, .inl (nI k9)), (4, .inr (.inl (lN nu))), (6, .inr (.inl (lN ix))), (8, .inl c), (9, .inl (nI a)), (10, .inl (nI PP.length)), (11, .inl (nI Q.length))] [] (rI S1 a_9 (upd (eI S1 a_9) (nI Q.length).toNatClampNeg (-1 : Int32))) (evC1 kz (R.Q.G n) a nu PP.length) (evC2 kz (R.Q.G n) a nu PP.length))))))
      obtain ⟨hM, rfl, hnum, hind, hD, hP⟩ := hp
      obtain ⟨hn, ha, hnu, hix, hge, hPl, hPP, hk9, -, hGT⟩ := id hP
      have hMI := hV.1
      have g := (hMI 2 n hn).2.1
      obtain ⟨m1, m2, m3, m4⟩ := hV.nm
      have le := le_e1 (kz := kz) (G := R.Q.G n) (a := a) (nu := nu) (ix := ix) (PP := PP) (oc := oc)
      have hm : PP.getD Q.length (0, 0) ∈ PP := by
        rw [List.getD_eq_getElem?_getD, List.getElem?_eq_getElem hlt]
        exact List.getElem_mem hlt
      obtain ⟨x1, x2⟩ := hPP _ hm
      have hle : lg_cmp (lN (PP.getD Q.length (0, 0)).2) 8192 ≤ 0 ↔ (PP.getD Q.length (0, 0)).2 ≤ 8192 := lgk (b := 8192) (by omega) (by decide)
      have cl : (nI Q.length).toNatClampNeg = Q.length := nI_clamp (by omega)
      have fin : ∀ v, v = lkI (lkE (R.Q.G n) (PP.getD Q.length (0, 0)).1 (PP.getD Q.length (0, 0)).2) → ∃ k1, k1 < 20000000000 + 10 * (PP.length - Q.length) + 8 ∧ I_ev5 t (Y n 0) s k9 c F z Y R kz n a nu ix kd PP oc S k1 [(0, .inr (.inr (some t))), (1, .inr (.inr (some (Y n 0)))), (2, .inl (nI s)), (3, .inl (nI k9)), (4, .inr (.inl (lN nu))), (6, .inr (.inl (lN ix))), (8, .inl c), (9, .inl (nI a)), (10, .inl (nI PP.length)), (11, .inl (nI Q.length))] [] (rI S1 (z1 24) (upd (eI S1 (z1 24)) (nI Q.length).toNatClampNeg v)) (evC1 kz (R.Q.G n) a nu PP.length) (evC2 kz (R.Q.G n) a nu PP.length) := fun v ev => by
        refine ⟨20000000000 + 10 * (PP.length - Q.length) + 7, by omega, Q, F1, z1, rfl, hV.wr (Or.inl rfl) _, hU, hlt, fun j hj => ?_, ?_, rfl, rfl, rfl, rfl⟩
        · rw [eI_rI, if_pos rfl, cl, upd, if_neg (by omega)]; exact hF j hj
        · rw [eI_rI, if_pos rfl, cl, upd, if_pos rfl]; exact ev
      refine ⟨(hMI 0).1, fun w => ⟨rfl, _, rfl, F1, 101 + n, Y n, R.Q.G n, R.Q.T n, ⟨rfl, g, x1⟩, le.1, le.2, pa_i m3 ⟨m4, inRl (by omega) (by omega), fin _ ?_⟩⟩, fun w => pa_i m3 ⟨m4, inRl (by omega) (by omega), fin _ ?_⟩⟩
      · have := hle.1 w
        rw [lN_32 (by omega), fnV_lk _ (by omega)]
      · rw [lkE_big g.ok (Nat.lt_of_not_le (fun q => w (hle.2 q)))]; rfl
    · cases hm
      obtain ⟨Q, F1, z1, rfl, hV, hU, hlt, hF, hv, rfl, rfl, rfl, rfl⟩ := h
      refine ⟨300, ?_⟩
      show (isO S1 15 t ∧ (pa (mR S1 1524 t) fun a_1 => ∃ v_2 : Int32, (isO S1 17 a_1 ∧ inR S1 a_1 (nI Q.length) ∧ v_2 = eI S1 a_1 (nI Q.length).toNatClampNeg ∨ a_1 = (mQ S1).1 ∧ vp_in (nI Q.length) 16 ∧ v_2 = mRem (nI Q.length).toNatClampNeg) ∧ ((0 ≤ v_2 → (∃ k1, k1 < 20000000000 + 10 * (PP.length - Q.length) + 7 ∧ I_ev3 t g s k9 c F z Y R kz n a nu ix kd PP oc S k1 [(0, .inr (.inr (some t))), (1, .inr (.inr (some g))), (2, .inl (nI s)), (3, .inl (nI k9)), (4, .inr (.inl (lN nu))), (6, .inr (.inl (lN ix))), (8, .inl c), (9, .inl (nI a)), (10, .inl (nI PP.length)), (11, .inl ((nI Q.length) + (1 : Int32)))] [] S1 (evC1 kz (R.Q.G n) a nu PP.length) (evC2 kz (R.Q.G n) a nu PP.length))) ∧ (¬ 0 ≤ v_2 → (([] : List MV) = [] ∧ mret (some .int) (sp_revt t g s k9 num ind c F z Y R kz n a nu ix kd PP oc) [.inr (.inr (some t)), .inr (.inr (some g)), .inl (nI s), .inl (nI k9), .inr (.inl num), .inr (.inl ind), .inl c] S (some (.inl (5 : Int32))) S1 (evC1 kz (R.Q.G n) a nu PP.length) (evC2 kz (R.Q.G n) a nu PP.length))))))
      obtain ⟨hM, rfl, hnum, hind, hD, hP⟩ := hp
      obtain ⟨hn, ha, hnu, hix, hge, hPl, hPP, hk9, -, hGT⟩ := id hP
      have hMI := hV.1
      have g := (hMI 2 n hn).2.1
      have hnm := g.ok.hn
      obtain ⟨m1, m2, m3, m4⟩ := hV.nm
      have cl : (nI Q.length).toNatClampNeg = Q.length := nI_clamp (by omega)
      have hm : PP.getD Q.length (0, 0) ∈ PP := by
        rw [List.getD_eq_getElem?_getD, List.getElem?_eq_getElem hlt]
        exact List.getElem_mem hlt
      refine ⟨(hMI 0).1, rdI (v := lkI (lkE (R.Q.G n) (PP.getD Q.length (0, 0)).1 (PP.getD Q.length (0, 0)).2)) m3 m4 (inRl (by omega) (by omega)) (by rw [cl]; exact hv) ?_⟩
      cases he : lkE (R.Q.G n) (PP.getD Q.length (0, 0)).1 (PP.getD Q.length (0, 0)).2 with
      | none =>
        have h5 := nc_eV2 (G := R.Q.G n) (a := a) (nu := nu) (ix := ix) (PP := PP) (ins := oc ≠ none) (by rw [hV.2.2]; exact Nat.lt_irrefl _) (lkA_none hm he)
        exact ⟨fun w => absurd w (by decide), fun _ => hV.no 5 h5.symm (by decide) (by decide)⟩
      | some e =>
        have hel := lkE_lt he
        have el : (Q ++ [e]).length = Q.length + 1 := by rw [List.length_append]; rfl
        refine ⟨fun _ => ⟨20000000000 + 10 * (PP.length - (Q ++ [e]).length) + 9, by rw [el]; omega, Q ++ [e], F1, z1, rfl, hV, ⟨by rw [el]; omega, ?_⟩, fun j hj => ?_, by rw [el, nI_1], rfl, rfl, rfl⟩, fun w => absurd (Int32.not_lt.1 (nI_pos (show e < 2147483648 by omega))) w⟩
        · rw [el, List.take_succ_eq_append_getElem hlt, List.map_append, List.map_append, hU.2]
          have e9 : PP[Q.length] = PP.getD Q.length (0, 0) := by rw [List.getD_eq_getElem?_getD, List.getElem?_eq_getElem hlt]; rfl
          rw [e9, List.map_singleton, List.map_singleton, he]
        · rw [el] at hj
          by_cases w : j = Q.length
          · rw [w, hv, he, List.getD_eq_getElem?_getD, List.getElem?_append_right (Nat.le_refl _), Nat.sub_self]; rfl
          · rw [hF j (by omega), List.getD_eq_getElem?_getD, List.getD_eq_getElem?_getD, List.getElem?_append_left (by omega)]
    · cases hm
      obtain ⟨Q, j, F1, z1, rfl, hV, hT, hF, hj, hN, hW, rfl, rfl, rfl, rfl⟩ := h
      refine ⟨300, ?_⟩
      show (((nI PP.length) ≤ (nI j) → (∃ k1, k1 < 100000 * (PP.length - j) + 99999 ∧ I_ev10 t g s k9 c F z Y R kz n a nu ix kd PP oc S k1 [(0, .inr (.inr (some t))), (1, .inr (.inr (some g))), (2, .inl (nI s)), (4, .inr (.inl (lN nu))), (6, .inr (.inl (lN ix))), (8, .inl c), (9, .inl (nI a))] [] S1 (evC1 kz (R.Q.G n) a nu PP.length) (evC2 kz (R.Q.G n) a nu PP.length))) ∧ (¬ (nI PP.length) ≤ (nI j) → (∃ k1, k1 < 100000 * (PP.length - j) + 99999 ∧ I_ev7 t g s k9 c F z Y R kz n a nu ix kd PP oc S k1 [(0, .inr (.inr (some t))), (1, .inr (.inr (some g))), (2, .inl (nI s)), (4, .inr (.inl (lN nu))), (6, .inr (.inl (lN ix))), (8, .inl c), (9, .inl (nI a)), (10, .inl (nI PP.length)), (11, .inl (nI j)), (12, .inl (0 : Int32))] [] S1 (evC1 kz (R.Q.G n) a nu PP.length) (evC2 kz (R.Q.G n) a nu PP.length))))
      obtain ⟨hM, rfl, hnum, hind, hD, hP⟩ := hp
      have hPl := hP.2.2.2.2.2.1
      have hl := hT.1
      refine if_le (by omega) (by omega) (fun w => ⟨50, by omega, Q, F1, z1, rfl, hV, hT, noR.rel (by rw [hl, show PP.length = j by omega]; exact hN), ?_, rfl, rfl, rfl, rfl⟩) (fun w => ⟨100000 * (PP.length - j) + 50000 + (PP.length - 0), by omega, Q, j, 0, F1, z1, rfl, hV, hT, hF, w, Nat.zero_le _, hN, fun i' hi' => absurd hi' (Nat.not_lt_zero i'), hW, rfl, rfl, rfl, rfl⟩)
      rw [List.take_of_length_le (by omega)] at hW; exact hW
    · cases hm
      obtain ⟨Q, j, i, F1, z1, rfl, hV, hT, hF, hj, hi, hN, hNi, hW, rfl, rfl, rfl, rfl⟩ := h
      refine ⟨300, ?_⟩
      show (((nI PP.length) ≤ (nI i) → (∃ k1, k1 < 100000 * (PP.length - j) + 50000 + (PP.length - i) ∧ I_ev8 t g s k9 c F z Y R kz n a nu ix kd PP oc S k1 [(0, .inr (.inr (some t))), (1, .inr (.inr (some g))), (2, .inl (nI s)), (4, .inr (.inl (lN nu))), (6, .inr (.inl (lN ix))), (8, .inl c), (9, .inl (nI a)), (10, .inl (nI PP.length)), (11, .inl (nI j)), (12, .inl (0 : Int32))] [] S1 (evC1 kz (R.Q.G n) a nu PP.length) (evC2 kz (R.Q.G n) a nu PP.length))) ∧ (¬ (nI PP.length) ≤ (nI i) → (((nI i) = (nI j) → (∃ k1, k1 < 100000 * (PP.length - j) + 50000 + (PP.length - i) ∧ I_ev7 t g s k9 c F z Y R kz n a nu ix kd PP oc S k1 [(0, .inr (.inr (some t))), (1, .inr (.inr (some g))), (2, .inl (nI s)), (4, .inr (.inl (lN nu))), (6, .inr (.inl (lN ix))), (8, .inl c), (9, .inl (nI a)), (10, .inl (nI PP.length)), (11, .inl (nI j)), (12, .inl ((nI i) + (1 : Int32)))] [] S1 (evC1 kz (R.Q.G n) a nu PP.length) (evC2 kz (R.Q.G n) a nu PP.length))) ∧ (¬ (nI i) = (nI j) → (isO S1 15 t ∧ (pa (mR S1 1524 t) fun a_1 => ∃ v_2 : Int32, (isO S1 17 a_1 ∧ inR S1 a_1 (nI i) ∧ v_2 = eI S1 a_1 (nI i).toNatClampNeg ∨ a_1 = (mQ S1).1 ∧ vp_in (nI i) 16 ∧ v_2 = mRem (nI i).toNatClampNeg) ∧ (isO S1 15 t ∧ (pa (mR S1 1524 t) fun a_3 => ∃ v_4 : Int32, (isO S1 17 a_3 ∧ inR S1 a_3 (nI j) ∧ v_4 = eI S1 a_3 (nI j).toNatClampNeg ∨ a_3 = (mQ S1).1 ∧ vp_in (nI j) 16 ∧ v_4 = mRem (nI j).toNatClampNeg) ∧ ((v_2 = v_4 → (([] : List MV) = [] ∧ mret (some .int) (sp_revt t g s k9 num ind c F z Y R kz n a nu ix kd PP oc) [.inr (.inr (some t)), .inr (.inr (some g)), .inl (nI s), .inl (nI k9), .inr (.inl num), .inr (.inl ind), .inl c] S (some (.inl (6 : Int32))) S1 (evC1 kz (R.Q.G n) a nu PP.length) (evC2 kz (R.Q.G n) a nu PP.length))) ∧ (¬ v_2 = v_4 → (isO S1 15 t ∧ (pa (mR S1 1524 t) fun a_5 => ∃ v_6 : Int32, (isO S1 17 a_5 ∧ inR S1 a_5 (nI j) ∧ v_6 = eI S1 a_5 (nI j).toNatClampNeg ∨ a_5 = (mQ S1).1 ∧ vp_in (nI j) 16 ∧ v_6 = mRem (nI j).toNatClampNeg) ∧ (isO S1 15 t ∧ (pa (mR S1 1524 t) fun a_7 => ∃ v_8 : Int32, (isO S1 17 a_7 ∧ inR S1 a_7 (nI i) ∧ v_8 = eI S1 a_7 (nI i).toNatClampNeg ∨ a_7 = (mQ S1).1 ∧ vp_in (nI i) 16 ∧ v_8 = mRem (nI i).toNatClampNeg) ∧ (0 = 0 ∧ (∃ (e_9 : Nat), v_6 = nI e_9 ∧ (∃ (f_10 : Nat), v_8 = nI f_10 ∧ (∃ (F_11 : Nat → Nat × Nat) (i_12 : Nat) (y_13 : Nat → Nat) (G_14 : Gr) (T_15 : Tr), (g = y_13 0 ∧ RG S1 F_11 i_12 y_13 G_14 T_15 ∧ e_9 < G_14.n ∧ f_10 < G_14.n) ∧ evC1 kz (R.Q.G n) a nu PP.length ≤ nc_e1 kz (R.Q.G n) a nu ix PP oc ∧ evC2 kz (R.Q.G n) a nu PP.length ≤ nc_e2 kz (R.Q.G n) a nu ix PP oc ∧ ((((bI (G_14.bef e_9 f_10)) = 0 → (∃ k1, k1 < 100000 * (PP.length - j) + 50000 + (PP.length - i) ∧ I_ev7 t g s k9 c F z Y R kz n a nu ix kd PP oc S k1 [(0, .inr (.inr (some t))), (1, .inr (.inr (some g))), (2, .inl (nI s)), (4, .inr (.inl (lN nu))), (6, .inr (.inl (lN ix))), (8, .inl c), (9, .inl (nI a)), (10, .inl (nI PP.length)), (11, .inl (nI j)), (12, .inl ((nI i) + (1 : Int32)))] [] S1 (evC1 kz (R.Q.G n) a nu PP.length) (evC2 kz (R.Q.G n) a nu PP.length))) ∧ (¬ (bI (G_14.bef e_9 f_10)) = 0 → (([] : List MV) = [] ∧ mret (some .int) (sp_revt t g s k9 num ind c F z Y R kz n a nu ix kd PP oc) [.inr (.inr (some t)), .inr (.inr (some g)), .inl (nI s), .inl (nI k9), .inr (.inl num), .inr (.inl ind), .inl c] S (some (.inl (6 : Int32))) S1 (evC1 kz (R.Q.G n) a nu PP.length) (evC2 kz (R.Q.G n) a nu PP.length)))))))))))))))))))))))
      obtain ⟨hM, rfl, hnum, hind, hD, hP⟩ := hp
      obtain ⟨hn, ha, hnu, hix, hge, hPl, hPP, hk9, -, hGT⟩ := id hP
      have hMI := hV.1
      have g := (hMI 2 n hn).2.1
      have hnm := g.ok.hn
      have hl := hT.1
      obtain ⟨m1, m2, m3, m4⟩ := hV.nm
      have le := le_e1 (kz := kz) (G := R.Q.G n) (a := a) (nu := nu) (ix := ix) (PP := PP) (oc := oc)
      have gm : ∀ x, x < PP.length → Q.getD x 0 < (R.Q.G n).n := fun x hx => by
        rw [List.getD_eq_getElem?_getD, List.getElem?_eq_getElem (show x < Q.length by omega)]
        exact hT.2.2 _ (List.getElem_mem (show x < Q.length by omega))
      refine if_le (by omega) (by omega) (fun w => ⟨100000 * (PP.length - j) + 100 + 2 * (16 - 0) + 1, by omega, Q, j, 0, F1, z1, rfl, hV, hT, hF, hj, Nat.zero_le _, fun j' hj' i' hi' hne => ?_, by rw [jnX_0]; exact hW, rfl, rfl, rfl, rfl⟩) (fun w => ?_)
      · by_cases e : j' = j
        · subst e; exact hNi i' (by omega) hne
        · exact hN j' (by omega) i' hi' hne
      · have go7 : (i ≠ j → Q.getD i 0 ≠ Q.getD j 0 ∧ (R.Q.G n).bef (Q.getD j 0) (Q.getD i 0) = false) → ∃ k1, k1 < 100000 * (PP.length - j) + 50000 + (PP.length - i) ∧ I_ev7 t (Y n 0) s k9 c F z Y R kz n a nu ix kd PP oc S k1 [(0, .inr (.inr (some t))), (1, .inr (.inr (some (Y n 0)))), (2, .inl (nI s)), (4, .inr (.inl (lN nu))), (6, .inr (.inl (lN ix))), (8, .inl c), (9, .inl (nI a)), (10, .inl (nI PP.length)), (11, .inl (nI j)), (12, .inl (nI i + 1))] [] S1 (evC1 kz (R.Q.G n) a nu PP.length) (evC2 kz (R.Q.G n) a nu PP.length) := fun hx => ⟨100000 * (PP.length - j) + 50000 + (PP.length - (i + 1)), by omega, Q, j, i + 1, F1, z1, rfl, hV, hT, hF, hj, by omega, hN, fun i' hi' hne => by
          by_cases e : i' = i
          · subst e; exact hx hne
          · exact hNi i' (by omega) hne, hW, by rw [nI_1], rfl, rfl, rfl⟩
        have ci : (nI i).toNatClampNeg = i := nI_clamp (by omega)
        have cj : (nI j).toNatClampNeg = j := nI_clamp (by omega)
        have gi := gm i w
        have gj := gm j hj
        have ei : eI S1 (z1 24) (nI i).toNatClampNeg = nI (Q.getD i 0) := by rw [ci]; exact hF i (by omega)
        have ej : eI S1 (z1 24) (nI j).toNatClampNeg = nI (Q.getD j 0) := by rw [cj]; exact hF j (by omega)
        have ri : inR S1 (z1 24) (nI i) := inRl (by omega) (by omega)
        have rj : inR S1 (z1 24) (nI j) := inRl (by omega) (by omega)
        refine if_eq (by omega) (by omega) (fun w2 => go7 (fun h => absurd w2 h)) (fun w2 => ⟨(hMI 0).1, rdI m3 m4 ri ei ⟨(hMI 0).1, rdI m3 m4 rj ej (if_eq (by omega) (by omega) (fun w3 => hV.no 6 (hV.flt hT (flt_6a (rel_of (by omega) (by omega) w2 (Or.inl w3)))) (by decide) (by decide)) (fun w3 => ⟨(hMI 0).1, rdI m3 m4 rj ej ⟨(hMI 0).1, rdI m3 m4 ri ei ⟨rfl, _, rfl, _, rfl, F1, 101 + n, Y n, R.Q.G n, R.Q.T n, ⟨rfl, g, gj, gi⟩, le.1, le.2, fun w4 => go7 (fun _ => ⟨w3, bI_0.1 w4⟩), fun w4 => hV.no 6 (hV.flt hT (flt_6a (rel_of (by omega) (by omega) w2 (Or.inr ?_)))) (by decide) (by decide)⟩⟩⟩))⟩⟩)
        cases hb : (R.Q.G n).bef (Q.getD j 0) (Q.getD i 0) with
        | true => rfl
        | false => exact absurd (bI_0.2 hb) w4
    · cases hm
      obtain ⟨Q, j, x, F1, z1, rfl, hV, hT, hF, hj, hx, hN, hW, rfl, rfl, rfl, rfl⟩ := h
      refine ⟨300, ?_⟩
      show (((16 : Int32) ≤ (nI x) → (∃ k1, k1 < 100000 * (PP.length - j) + 100 + 2 * (16 - x) + 1 ∧ I_ev6 t g s k9 c F z Y R kz n a nu ix kd PP oc S k1 [(0, .inr (.inr (some t))), (1, .inr (.inr (some g))), (2, .inl (nI s)), (4, .inr (.inl (lN nu))), (6, .inr (.inl (lN ix))), (8, .inl c), (9, .inl (nI a)), (10, .inl (nI PP.length)), (11, .inl ((nI j) + (1 : Int32)))] [] S1 (evC1 kz (R.Q.G n) a nu PP.length) (evC2 kz (R.Q.G n) a nu PP.length))) ∧ (¬ (16 : Int32) ≤ (nI x) → (isO S1 13 g ∧ (isO S1 15 t ∧ (pa (mR S1 1524 t) fun a_1 => ∃ v_2 : Int32, (isO S1 17 a_1 ∧ inR S1 a_1 (nI j) ∧ v_2 = eI S1 a_1 (nI j).toNatClampNeg ∨ a_1 = (mQ S1).1 ∧ vp_in (nI j) 16 ∧ v_2 = mRem (nI j).toNatClampNeg) ∧ (pa (mR S1 1306 g) fun a_3 => ∃ v_4 : Int32, (isO S1 17 a_3 ∧ inR S1 a_3 v_2 ∧ v_4 = eI S1 a_3 v_2.toNatClampNeg ∨ a_3 = (mQ S1).1 ∧ vp_in v_2 16 ∧ v_4 = mRem v_2.toNatClampNeg) ∧ ((¬ (nI x) = v_4 → (isO S1 13 g ∧ (isO S1 15 t ∧ (pa (mR S1 1524 t) fun a_5 => ∃ v_6 : Int32, (isO S1 17 a_5 ∧ inR S1 a_5 (nI j) ∧ v_6 = eI S1 a_5 (nI j).toNatClampNeg ∨ a_5 = (mQ S1).1 ∧ vp_in (nI j) 16 ∧ v_6 = mRem (nI j).toNatClampNeg) ∧ (pa (mR S1 1308 g) fun a_7 => isO S1 19 a_7 ∧ inR S1 a_7 (((16 : Int32) * v_6) + (nI x)) ∧ (∃ k1, k1 < 100000 * (PP.length - j) + 100 + 2 * (16 - x) + 1 ∧ I_ev9 t g s k9 c F z Y R kz n a nu ix kd PP oc S k1 [(0, .inr (.inr (some t))), (1, .inr (.inr (some g))), (2, .inl (nI s)), (4, .inr (.inl (lN nu))), (6, .inr (.inl (lN ix))), (8, .inl c), (9, .inl (nI a)), (10, .inl (nI PP.length)), (11, .inl (nI j)), (12, .inl (nI x)), (13, .inl (eI S1 a_7 (((16 : Int32) * v_6) + (nI x)).toNatClampNeg))] [] S1 (evC1 kz (R.Q.G n) a nu PP.length) (evC2 kz (R.Q.G n) a nu PP.length))))))) ∧ ((nI x) = v_4 → (isO S1 13 g ∧ (isO S1 15 t ∧ (pa (mR S1 1524 t) fun a_8 => ∃ v_9 : Int32, (isO S1 17 a_8 ∧ inR S1 a_8 (nI j) ∧ v_9 = eI S1 a_8 (nI j).toNatClampNeg ∨ a_8 = (mQ S1).1 ∧ vp_in (nI j) 16 ∧ v_9 = mRem (nI j).toNatClampNeg) ∧ (pa (mR S1 1307 g) fun a_10 => ∃ v_11 : Int32, (isO S1 17 a_10 ∧ inR S1 a_10 v_9 ∧ v_11 = eI S1 a_10 v_9.toNatClampNeg ∨ a_10 = (mQ S1).1 ∧ vp_in v_9 16 ∧ v_11 = mRem v_9.toNatClampNeg) ∧ (∃ k1, k1 < 100000 * (PP.length - j) + 100 + 2 * (16 - x) + 1 ∧ I_ev9 t g s k9 c F z Y R kz n a nu ix kd PP oc S k1 [(0, .inr (.inr (some t))), (1, .inr (.inr (some g))), (2, .inl (nI s)), (4, .inr (.inl (lN nu))), (6, .inr (.inl (lN ix))), (8, .inl c), (9, .inl (nI a)), (10, .inl (nI PP.length)), (11, .inl (nI j)), (12, .inl (nI x)), (13, .inl (v_11 + (1 : Int32)))] [] S1 (evC1 kz (R.Q.G n) a nu PP.length) (evC2 kz (R.Q.G n) a nu PP.length))))))))))))))
      obtain ⟨hM, rfl, hnum, hind, hD, hP⟩ := hp
      obtain ⟨hn, ha, hnu, hix, hge, hPl, hPP, hk9, -, hGT⟩ := id hP
      have hMI := hV.1
      have g := (hMI 2 n hn).2.1
      have hnm := g.ok.hn
      have hl := hT.1
      obtain ⟨m1, m2, m3, m4⟩ := hV.nm
      have gj : Q.getD j 0 < (R.Q.G n).n := by
        rw [List.getD_eq_getElem?_getD, List.getElem?_eq_getElem (show j < Q.length by omega)]
        exact hT.2.2 _ (List.getElem_mem (show j < Q.length by omega))
      refine if_le (a := 16) (by decide) (by omega) (fun w => ⟨100000 * (PP.length - (j + 1)) + 99999, by omega, Q, j + 1, F1, z1, rfl, hV, hT, hF, hj, hN, fun s hs => ?_, by rw [nI_1], rfl, rfl, rfl⟩) (fun w => ?_)
      · have := hW s hs
        unfold jnX at this
        rw [if_pos (by omega)] at this
        exact this
      · have cj : (nI j).toNatClampNeg = j := nI_clamp (by omega)
        have ej : eI S1 (z1 24) (nI j).toNatClampNeg = nI (Q.getD j 0) := by rw [cj]; exact hF j (by omega)
        have rj : inR S1 (z1 24) (nI j) := inRl (by omega) (by omega)
        have sl16 : ((R.Q.G n).ev (Q.getD j 0)).sl < 16 := Nat.lt_of_lt_of_le (g.ok.sl1 _ gj) g.ok.hm
        have fin : ∀ v, v = nI ((R.Q.G n).full (Q.getD j 0) x) → ∃ k1, k1 < 100000 * (PP.length - j) + 100 + 2 * (16 - x) + 1 ∧ I_ev9 t (Y n 0) s k9 c F z Y R kz n a nu ix kd PP oc S k1 [(0, .inr (.inr (some t))), (1, .inr (.inr (some (Y n 0)))), (2, .inl (nI s)), (4, .inr (.inl (lN nu))), (6, .inr (.inl (lN ix))), (8, .inl c), (9, .inl (nI a)), (10, .inl (nI PP.length)), (11, .inl (nI j)), (12, .inl (nI x)), (13, .inl v)] [] S1 (evC1 kz (R.Q.G n) a nu PP.length) (evC2 kz (R.Q.G n) a nu PP.length) := fun v ev => ⟨100000 * (PP.length - j) + 100 + 2 * (16 - x), by omega, Q, j, x, F1, z1, rfl, hV, hT, hF, hj, w, hN, hW, by rw [ev], rfl, rfl, rfl⟩
        refine ⟨(g 0).1, (hMI 0).1, rdI m3 m4 rj ej (g.g6 gj (if_ne (by omega) (by omega) (fun w2 => ⟨(g 0).1, (hMI 0).1, rdI m3 m4 rj ej (pa_i g.r8.1 ⟨g.r8.2.1, ?_, fin _ ?_⟩)⟩) (fun w2 => ⟨(g 0).1, (hMI 0).1, rdI m3 m4 rj ej (g.g7 gj (fin _ ?_))⟩)))⟩
        · rw [show (16 : Int32) * nI (Q.getD j 0) + nI x = nI (16 * Q.getD j 0 + x) from by rw [nI_mul16, nI_add]]
          exact inRn g.r8.2.2 (by omega) (by decide)
        · rw [show (16 : Int32) * nI (Q.getD j 0) + nI x = nI (16 * Q.getD j 0 + x) from by rw [nI_mul16, nI_add], nI_clamp (by omega), (g 5 _ gj).2.2.1 x w]
          unfold Gr.full
          rw [if_neg w2]
        · unfold Gr.full
          rw [if_pos w2, nI_1]
    · cases hm
      obtain ⟨Q, j, x, F1, z1, rfl, hV, hT, hF, hj, hx, hN, hW, rfl, rfl, rfl, rfl⟩ := h
      refine ⟨300, ?_⟩
      show (isO S1 15 t ∧ (pa (mR S1 1515 t) fun a_1 => isO S1 19 a_1 ∧ inR S1 a_1 (nI x) ∧ (((nI ((R.Q.G n).full (Q.getD j 0) x)) ≤ (eI S1 a_1 (nI x).toNatClampNeg) → (∃ k1, k1 < 100000 * (PP.length - j) + 100 + 2 * (16 - x) ∧ I_ev8 t g s k9 c F z Y R kz n a nu ix kd PP oc S k1 [(0, .inr (.inr (some t))), (1, .inr (.inr (some g))), (2, .inl (nI s)), (4, .inr (.inl (lN nu))), (6, .inr (.inl (lN ix))), (8, .inl c), (9, .inl (nI a)), (10, .inl (nI PP.length)), (11, .inl (nI j)), (12, .inl ((nI x) + (1 : Int32)))] [] S1 (evC1 kz (R.Q.G n) a nu PP.length) (evC2 kz (R.Q.G n) a nu PP.length))) ∧ (¬ (nI ((R.Q.G n).full (Q.getD j 0) x)) ≤ (eI S1 a_1 (nI x).toNatClampNeg) → (isO S1 15 t ∧ (pa (mR S1 1515 t) fun a_2 => isO S1 19 a_2 ∧ inR S1 a_2 (nI x) ∧ (∃ k1, k1 < 100000 * (PP.length - j) + 100 + 2 * (16 - x) ∧ I_ev8 t g s k9 c F z Y R kz n a nu ix kd PP oc S k1 [(0, .inr (.inr (some t))), (1, .inr (.inr (some g))), (2, .inl (nI s)), (4, .inr (.inl (lN nu))), (6, .inr (.inl (lN ix))), (8, .inl c), (9, .inl (nI a)), (10, .inl (nI PP.length)), (11, .inl (nI j)), (12, .inl ((nI x) + (1 : Int32)))] [] (rI S1 a_2 (upd (eI S1 a_2) (nI x).toNatClampNeg (((nI ((R.Q.G n).full (Q.getD j 0) x)).toInt16.toInt32).toInt16.toInt32))) (evC1 kz (R.Q.G n) a nu PP.length) (evC2 kz (R.Q.G n) a nu PP.length))))))))
      obtain ⟨hM, rfl, hnum, hind, hD, hP⟩ := hp
      obtain ⟨hn, ha, hnu, hix, hge, hPl, hPP, hk9, -, hGT⟩ := id hP
      have hMI := hV.1
      have g := (hMI 2 n hn).2.1
      have hnm := g.ok.hn
      have hl := hT.1
      have gj : Q.getD j 0 < (R.Q.G n).n := by
        rw [List.getD_eq_getElem?_getD, List.getElem?_eq_getElem (show j < Q.length by omega)]
        exact hT.2.2 _ (List.getElem_mem (show j < Q.length by omega))
      have r15 := hMI 1 15 (by decide)
      have n15 : mN S1 (z1 15) = 16 := r15.2.2.2
      have cx : (nI x).toNatClampNeg = x := nI_clamp (by omega)
      have ax : jnX (R.Q.G n) Q j x x = (R.Q.G n).jn (Q.take j) x := if_neg (Nat.lt_irrefl x)
      obtain ⟨w1, w2⟩ := hW x hx
      rw [ax] at w1 w2
      have ff : (R.Q.G n).full (Q.getD j 0) x ≤ 8192 := Nat.le_trans (Nat.le_trans (Gr.full_cnt g.ok gj) (Gr.cnt_mono x gj)) (cn_le g.ok x)
      have jt := jn_tk (G := R.Q.G n) (Q := Q) (j := j) (by omega) x
      have nx : ∀ s, s ≠ x → jnX (R.Q.G n) Q j (x + 1) s = jnX (R.Q.G n) Q j x s := fun s hs => by
        unfold jnX
        by_cases q : s < x
        · rw [if_pos q, if_pos (by omega)]
        · rw [if_neg q, if_neg (by omega)]
      have nxx : jnX (R.Q.G n) Q j (x + 1) x = (R.Q.G n).jn (Q.take (j + 1)) x := if_pos (Nat.lt_succ_self x)
      refine ⟨(hMI 0).1, pa_i r15.1 ⟨r15.2.2.1, inRn n15 hx (by decide), ?_⟩⟩
      rw [cx, w1]
      refine if_le (by omega) (by omega) (fun q => ⟨100000 * (PP.length - j) + 100 + 2 * (16 - (x + 1)) + 1, by omega, Q, j, x + 1, F1, z1, rfl, hV, hT, hF, hj, by omega, hN, fun s hs => ?_, by rw [nI_1], rfl, rfl, rfl⟩) (fun q => ⟨(hMI 0).1, pa_i r15.1 ⟨r15.2.2.1, inRn n15 hx (by decide), 100000 * (PP.length - j) + 100 + 2 * (16 - (x + 1)) + 1, by omega, Q, j, x + 1, F1, z1, rfl, hV.wr (Or.inr rfl) _, hT, hV.fd hF _, hj, by omega, hN, fun s hs => ?_, by rw [nI_1], rfl, rfl, rfl⟩⟩)
      · by_cases e : s = x
        · subst e
          rw [nxx, jt, Nat.max_eq_left q]; exact ⟨w1, w2⟩
        · rw [nx s e]; exact hW s hs
      · rw [eI_rI, if_pos rfl, upd]
        by_cases e : s = x
        · subst e
          rw [if_pos rfl, nxx, jt, Nat.max_eq_right (by omega), sh32 (by omega)]
          exact ⟨rfl, ff⟩
        · rw [if_neg e, nx s e]; exact hW s hs
    · cases hm
      obtain ⟨Q, F1, z1, rfl, hV, hT, hR, hW, rfl, rfl, rfl, rfl⟩ := h
      refine ⟨300, ?_⟩
      show (0 = 0 ∧ (∃ (a_1 : Nat), nI a = nI a_1 ∧ (∃ (F_2 : Nat → Nat × Nat) (i_3 : Nat) (y_4 : Nat → Nat) (G_5 : Gr) (T_6 : Tr), (g = y_4 0 ∧ RG S1 F_2 i_3 y_4 G_5 T_6 ∧ a_1 < 256) ∧ evC1 kz (R.Q.G n) a nu PP.length ≤ nc_e1 kz (R.Q.G n) a nu ix PP oc ∧ evC2 kz (R.Q.G n) a nu PP.length ≤ nc_e2 kz (R.Q.G n) a nu ix PP oc ∧ (∀ (x_8 : Int32), (slR G_5 a_1 x_8) → (((lg_cmp (lN nu) (0 : Int64)) ≤ 0 → (∃ k1, k1 < 50 ∧ I_ev11 t g s k9 c F z Y R kz n a nu ix kd PP oc S k1 [(0, .inr (.inr (some t))), (1, .inr (.inr (some g))), (2, .inl (nI s)), (4, .inr (.inl (lN nu))), (6, .inr (.inl (lN ix))), (8, .inl c), (9, .inl (nI a)), (11, .inl x_8)] [] S1 (evC1 kz (R.Q.G n) a nu PP.length) (evC2 kz (R.Q.G n) a nu PP.length))) ∧ (¬ (lg_cmp (lN nu) (0 : Int64)) ≤ 0 → (isO S1 15 t ∧ (pa (mR S1 1515 t) fun a_9 => isO S1 19 a_9 ∧ inR S1 a_9 x_8 ∧ ((0 ≤ (lg_cmp ((eI S1 a_9 x_8.toNatClampNeg).toInt64) (lN nu)) → (∃ k1, k1 < 50 ∧ I_ev11 t g s k9 c F z Y R kz n a nu ix kd PP oc S k1 [(0, .inr (.inr (some t))), (1, .inr (.inr (some g))), (2, .inl (nI s)), (4, .inr (.inl (lN nu))), (6, .inr (.inl (lN ix))), (8, .inl c), (9, .inl (nI a)), (11, .inl x_8)] [] S1 (evC1 kz (R.Q.G n) a nu PP.length) (evC2 kz (R.Q.G n) a nu PP.length))) ∧ (¬ 0 ≤ (lg_cmp ((eI S1 a_9 x_8.toNatClampNeg).toInt64) (lN nu)) → (([] : List MV) = [] ∧ mret (some .int) (sp_revt t g s k9 num ind c F z Y R kz n a nu ix kd PP oc) [.inr (.inr (some t)), .inr (.inr (some g)), .inl (nI s), .inl (nI k9), .inr (.inl num), .inr (.inl ind), .inl c] S (some (.inl (6 : Int32))) S1 (evC1 kz (R.Q.G n) a nu PP.length) (evC2 kz (R.Q.G n) a nu PP.length))))))))))))
      obtain ⟨hM, rfl, hnum, hind, hD, hP⟩ := hp
      obtain ⟨hn, ha, hnu, hix, hge, hPl, hPP, hk9, -, hGT⟩ := id hP
      have hMI := hV.1
      have g := (hMI 2 n hn).2.1
      have h8 := agE_8192 g.ok a
      have hnn := hV.2.2
      have hm16 := g.ok.hm
      have le := le_e1 (kz := kz) (G := R.Q.G n) (a := a) (nu := nu) (ix := ix) (PP := PP) (oc := oc)
      have jl := fun s => Gr.jn_cnt g.ok (P := Q) hT.2.2 s
      have nus : ∀ s, s < (R.Q.G n).m → (R.Q.G n).ag s = a → (R.Q.G n).cn s = nu := fun s hs e => by rw [hnn, ← e, agE_sl g.ok hs, evL_len]
      refine ⟨rfl, a, rfl, F1, 101 + n, Y n, R.Q.G n, R.Q.T n, ⟨rfl, g, ha⟩, le.1, le.2, fun v hv => ?_⟩
      have go : ¬ (∃ s, s < (R.Q.G n).m ∧ (R.Q.G n).ag s = a ∧ (R.Q.G n).jn Q s ≠ nu) → ∃ k1, k1 < 50 ∧ I_ev11 t (Y n 0) s k9 c F z Y R kz n a nu ix kd PP oc S k1 [(0, .inr (.inr (some t))), (1, .inr (.inr (some (Y n 0)))), (2, .inl (nI s)), (4, .inr (.inl (lN nu))), (6, .inr (.inl (lN ix))), (8, .inl c), (9, .inl (nI a)), (11, .inl v)] [] S1 (evC1 kz (R.Q.G n) a nu PP.length) (evC2 kz (R.Q.G n) a nu PP.length) := fun h => ⟨40, by decide, Q, v, F1, z1, rfl, hV, hT, hR, hW, hv, h, rfl, rfl, rfl, rfl⟩
      have h0 : lg_cmp (lN nu) 0 ≤ 0 ↔ nu ≤ 0 := lgk (b := 0) (by omega) (by decide)
      refine ⟨fun w => go (fun ⟨s9, q1, q2, q3⟩ => ?_), fun w => ?_⟩
      · have := h0.1 w
        have e1 := nus s9 q1 q2
        have e2 := jl s9
        omega
      · have nu0 : 0 < nu := Nat.lt_of_not_le (fun q => w (h0.2 q))
        have r15 := hMI 1 15 (by decide)
        have n15 : mN S1 (z1 15) = 16 := r15.2.2.2
        rcases hv with ⟨rfl, hno⟩ | ⟨s9, hs9, hag, rfl⟩
        · exfalso
          rw [hnn, agE_no g.ok (fun ⟨s, hs, e⟩ => hno s hs e)] at nu0
          exact absurd nu0 (by decide)
        · have c9 : (nI s9).toNatClampNeg = s9 := nI_clamp (by omega)
          obtain ⟨w1, w2⟩ := hW s9 (by omega)
          have e1 := nus s9 hs9 hag
          have e2 := jl s9
          have hgg : 0 ≤ lg_cmp (lN ((R.Q.G n).jn Q s9)) (lN nu) ↔ nu ≤ (R.Q.G n).jn Q s9 := lgg (by omega) (by omega)
          refine ⟨(hMI 0).1, pa_i r15.1 ⟨r15.2.2.1, inRn n15 (by omega) (by decide), ?_⟩⟩
          rw [c9, w1, nI_l (by omega)]
          refine ⟨fun q => go (fun ⟨s8, q1, q2, q3⟩ => ?_), fun q => hV.no 6 (hV.flt hT (flt_6b ⟨s9, hs9, hag, fun e => q (hgg.2 (by omega))⟩)) (by decide) (by decide)⟩
          have : s8 = s9 := g.ok.ag2 s8 s9 q1 hs9 (q2.trans hag.symm)
          subst this
          have := hgg.1 q
          omega
    · cases hm
      obtain ⟨Q, v, F1, z1, rfl, hV, hT, hR, hW, hv, hNS, rfl, rfl, rfl, rfl⟩ := h
      refine ⟨300, ?_⟩
      show (isO S1 15 t ∧ (0 = 0 ∧ ((pa (mR S1 1515 t) fun a_1 => (∃ (o_2 : Nat), (0 : Int32) = nI o_2 ∧ (∃ (F_3 : Nat → Nat × Nat) (i_4 : Nat) (y_5 : Nat → Nat) (G_6 : Gr) (T_7 : Tr) (W_8 : Nat → Nat), (g = y_5 0 ∧ RG S1 F_3 i_4 y_5 G_6 T_7 ∧ StR S1 a_1 o_2 W_8) ∧ evC1 kz (R.Q.G n) a nu PP.length ≤ nc_e1 kz (R.Q.G n) a nu ix PP oc ∧ evC2 kz (R.Q.G n) a nu PP.length ≤ nc_e2 kz (R.Q.G n) a nu ix PP oc ∧ ((isO S1 15 t ∧ (pa (mR S1 1541 t) fun a_10 => ∃ v_11 : Int32, (isO S1 17 a_10 ∧ inR S1 a_10 (nI s) ∧ v_11 = eI S1 a_10 (nI s).toNatClampNeg ∨ a_10 = (mQ S1).1 ∧ vp_in (nI s) 16 ∧ v_11 = mRem (nI s).toNatClampNeg) ∧ ((¬ v_11 = 0 → (((lg_cmp (lN ix) ((nI (T_7.od.filter (snW G_6 W_8)).length).toInt64)) < 0 → (∃ k1, k1 < 40 ∧ I_ev12 t g s k9 c F z Y R kz n a nu ix kd PP oc S k1 [(0, .inr (.inr (some t))), (1, .inr (.inr (some g))), (2, .inl (nI s)), (6, .inr (.inl (lN ix))), (8, .inl c), (9, .inl (nI a)), (11, .inl v)] [] S1 (evC1 kz (R.Q.G n) a nu PP.length) (evC2 kz (R.Q.G n) a nu PP.length))) ∧ (¬ (lg_cmp (lN ix) ((nI (T_7.od.filter (snW G_6 W_8)).length).toInt64)) < 0 → (([] : List MV) = [] ∧ mret (some .int) (sp_revt t g s k9 num ind c F z Y R kz n a nu ix kd PP oc) [.inr (.inr (some t)), .inr (.inr (some g)), .inl (nI s), .inl (nI k9), .inr (.inl num), .inr (.inl ind), .inl c] S (some (.inl (6 : Int32))) S1 (evC1 kz (R.Q.G n) a nu PP.length) (evC2 kz (R.Q.G n) a nu PP.length))))) ∧ (v_11 = 0 → (((lg_cmp (lN ix) ((nI (T_7.od.filter (snW G_6 W_8)).length).toInt64)) ≤ 0 → (∃ k1, k1 < 40 ∧ I_ev12 t g s k9 c F z Y R kz n a nu ix kd PP oc S k1 [(0, .inr (.inr (some t))), (1, .inr (.inr (some g))), (2, .inl (nI s)), (6, .inr (.inl (lN ix))), (8, .inl c), (9, .inl (nI a)), (11, .inl v)] [] S1 (evC1 kz (R.Q.G n) a nu PP.length) (evC2 kz (R.Q.G n) a nu PP.length))) ∧ (¬ (lg_cmp (lN ix) ((nI (T_7.od.filter (snW G_6 W_8)).length).toInt64)) ≤ 0 → (([] : List MV) = [] ∧ mret (some .int) (sp_revt t g s k9 num ind c F z Y R kz n a nu ix kd PP oc) [.inr (.inr (some t)), .inr (.inr (some g)), .inl (nI s), .inl (nI k9), .inr (.inl num), .inr (.inl ind), .inl c] S (some (.inl (6 : Int32))) S1 (evC1 kz (R.Q.G n) a nu PP.length) (evC2 kz (R.Q.G n) a nu PP.length)))))))))))))))
      obtain ⟨hM, rfl, hnum, hind, hD, hP⟩ := hp
      obtain ⟨hn, ha, hnu, hix, hge, hPl, hPP, hk9, -, hGT⟩ := id hP
      have hMI := hV.1
      have g := (hMI 2 n hn).2.1
      have hol := g.odl
      have hnm := g.nm
      have le := le_e1 (kz := kz) (G := R.Q.G n) (a := a) (nu := nu) (ix := ix) (PP := PP) (oc := oc)
      have r15 := hMI 1 15 (by decide)
      have n15 : mN S1 (z1 15) = 16 := r15.2.2.2
      have hk40 : kz 40 ≤ 131072 := (hM 11).2.2.2.1
      have hst : StR S1 (z1 15) 0 ((R.Q.G n).jn Q) := ⟨r15.2.2.1, by rw [n15]; exact Nat.le_refl _, by rw [n15]; decide, fun s hs => by rw [Nat.zero_add]; exact hW s hs⟩
      obtain ⟨z41, e41, -, m41, o41, n41⟩ := hV.row hM (j := 41) (by decide) (by decide)
      have n41 : mN S1 (z1 41) = kz 40 := n41 (by decide)
      have ds := hD.1
      have d2 := hD.2.2.1
      have cs : (nI s).toNatClampNeg = s := nI_clamp (by omega)
      have hfl : ((R.Q.T n).od.filter (snW (R.Q.G n) ((R.Q.G n).jn Q))).length ≤ (R.Q.T n).od.length := List.length_filter_le _ _
      have hc1 := hGT.c1 (W := (R.Q.G n).jn Q)
      refine ⟨(hMI 0).1, rfl, pa_i r15.1 ⟨0, rfl, F1, 101 + n, Y n, R.Q.G n, R.Q.T n, (R.Q.G n).jn Q, ⟨rfl, g, hst⟩, le.1, le.2, (hMI 0).1, rdI (v := nI kd) m41 o41 (inRn n41 ds (by omega)) (by rw [cs, e41]; exact d2) ?_⟩⟩
      rw [nI_l (by omega), ← hc1]
      rw [← hc1] at hfl
      have hll : lg_cmp (lN ix) (lN (c1 (R.Q.G n) ((R.Q.G n).jn Q) (R.Q.G n).n)) < 0 ↔ ix < c1 (R.Q.G n) ((R.Q.G n).jn Q) (R.Q.G n).n := lgl (by omega) (by omega)
      have hlk : lg_cmp (lN ix) (lN (c1 (R.Q.G n) ((R.Q.G n).jn Q) (R.Q.G n).n)) ≤ 0 ↔ ix ≤ c1 (R.Q.G n) ((R.Q.G n).jn Q) (R.Q.G n).n := lgk (by omega) (by omega)
      have go : ¬ (c1 (R.Q.G n) ((R.Q.G n).jn Q) (R.Q.G n).n < ix ∨ (ix = c1 (R.Q.G n) ((R.Q.G n).jn Q) (R.Q.G n).n ∧ ¬ oc ≠ none)) → ∃ k1, k1 < 40 ∧ I_ev12 t (Y n 0) s k9 c F z Y R kz n a nu ix kd PP oc S k1 [(0, .inr (.inr (some t))), (1, .inr (.inr (some (Y n 0)))), (2, .inl (nI s)), (6, .inr (.inl (lN ix))), (8, .inl c), (9, .inl (nI a)), (11, .inl v)] [] S1 (evC1 kz (R.Q.G n) a nu PP.length) (evC2 kz (R.Q.G n) a nu PP.length) := fun h => ⟨30, by decide, Q, v, F1, z1, rfl, hV, hT, hR, hW, hv, hNS, h, rfl, rfl, rfl, rfl⟩
      have hk3 := hP.k3
      refine if_ne (b := 0) (by omega) (by decide) (fun w => ⟨fun q => go (fun q2 => ?_), fun q => hV.no 6 (hV.flt hT (flt_6c ?_)) (by decide) (by decide)⟩) (fun w => ⟨fun q => go (fun q2 => ?_), fun q => hV.no 6 (hV.flt hT (flt_6c ?_)) (by decide) (by decide)⟩)
      · have := hll.1 q
        omega
      · have q1 : ¬ ix < c1 (R.Q.G n) ((R.Q.G n).jn Q) (R.Q.G n).n := fun e => q (hll.2 e)
        have oc0 : oc = none := by rcases hP.2.2.2.2.2.2.2.2.1 with h | h
                                   · exact absurd h.1 w
                                   · exact h.2.2
        by_cases e : ix = c1 (R.Q.G n) ((R.Q.G n).jn Q) (R.Q.G n).n
        · exact Or.inr ⟨e, fun h => h oc0⟩
        · exact Or.inl (by omega)
      · have q1 := hlk.1 q
        rcases hP.2.2.2.2.2.2.2.2.1 with ⟨-, ch, h1, -⟩ | h
        · rcases q2 with q2 | q2
          · omega
          · exact q2.2 (by rw [h1]; exact fun e => by cases e)
        · exact h.1 w
      · exact Or.inl (Nat.lt_of_not_le (fun e => q (hlk.2 e)))
    · cases hm
      obtain ⟨Q, v, F1, z1, rfl, hV, hT, hR, hW, hv, hNS, hNC, rfl, rfl, rfl, rfl⟩ := h
      refine ⟨300, ?_⟩
      show (isO S1 13 g ∧ (((mI S1 1300 g) = (8192 : Int32) → (([] : List MV) = [] ∧ mret (some .int) (sp_revt t g s k9 num ind c F z Y R kz n a nu ix kd PP oc) [.inr (.inr (some t)), .inr (.inr (some g)), .inl (nI s), .inl (nI k9), .inr (.inl num), .inr (.inl ind), .inl c] S (some (.inl (7 : Int32))) S1 (evC1 kz (R.Q.G n) a nu PP.length) (evC2 kz (R.Q.G n) a nu PP.length))) ∧ (¬ (mI S1 1300 g) = (8192 : Int32) → ((0 ≤ v → (∃ k1, k1 < 30 ∧ I_ev13 t g s k9 c F z Y R kz n a nu ix kd PP oc S k1 [(0, .inr (.inr (some t))), (1, .inr (.inr (some g))), (2, .inl (nI s)), (6, .inr (.inl (lN ix))), (8, .inl c), (9, .inl (nI a))] [] S1 (evC1 kz (R.Q.G n) a nu PP.length) (evC2 kz (R.Q.G n) a nu PP.length))) ∧ (¬ 0 ≤ v → (isO S1 13 g ∧ ((¬ (mI S1 1301 g) = (16 : Int32) → (∃ k1, k1 < 30 ∧ I_ev13 t g s k9 c F z Y R kz n a nu ix kd PP oc S k1 [(0, .inr (.inr (some t))), (1, .inr (.inr (some g))), (2, .inl (nI s)), (6, .inr (.inl (lN ix))), (8, .inl c), (9, .inl (nI a))] [] S1 (evC1 kz (R.Q.G n) a nu PP.length) (evC2 kz (R.Q.G n) a nu PP.length))) ∧ ((mI S1 1301 g) = (16 : Int32) → (([] : List MV) = [] ∧ mret (some .int) (sp_revt t g s k9 num ind c F z Y R kz n a nu ix kd PP oc) [.inr (.inr (some t)), .inr (.inr (some g)), .inl (nI s), .inl (nI k9), .inr (.inl num), .inr (.inl ind), .inl c] S (some (.inl (7 : Int32))) S1 (evC1 kz (R.Q.G n) a nu PP.length) (evC2 kz (R.Q.G n) a nu PP.length))))))))))
      obtain ⟨hM, rfl, hnum, hind, hD, hP⟩ := hp
      obtain ⟨hn, ha, hnu, hix, hge, hPl, hPP, hk9, -, hGT⟩ := id hP
      have hMI := hV.1
      have g := (hMI 2 n hn).2.1
      have hnn := g.ok.hn
      have hm16 := g.ok.hm
      have e0 : mI S1 1300 (Y n 0) = nI (R.Q.G n).n := (g 2).1
      have e1 : mI S1 1301 (Y n 0) = nI (R.Q.G n).m := (g 2).2.1
      obtain ⟨f1, f2⟩ := flt_7 (ins := oc ≠ none) hR hNS hNC
      have go : (R.Q.G n).n + 1 ≤ 8192 ∧ (hasAg (R.Q.G n) a ∨ (R.Q.G n).m < 16) → ∃ k1, k1 < 30 ∧ I_ev13 t (Y n 0) s k9 c F z Y R kz n a nu ix kd PP oc S k1 [(0, .inr (.inr (some t))), (1, .inr (.inr (some (Y n 0)))), (2, .inl (nI s)), (6, .inr (.inl (lN ix))), (8, .inl c), (9, .inl (nI a))] [] S1 (evC1 kz (R.Q.G n) a nu PP.length) (evC2 kz (R.Q.G n) a nu PP.length) := fun h => ⟨20, by decide, Q, F1, z1, rfl, hV, hT, hW, f1 h, rel_len g.ok hR hT.2.2, rfl, rfl, rfl, rfl⟩
      rw [e0, e1]
      refine ⟨(g 0).1, if_eq (b := 8192) (by omega) (by decide) (fun w => hV.no 7 (hV.flt hT (f2 (fun h => by omega))) (by decide) (by decide)) (fun w => ?_)⟩
      rcases hv with ⟨rfl, hno⟩ | ⟨s9, hs9, hag, rfl⟩
      · refine ⟨fun q => absurd q (by decide), fun _ => ⟨(g 0).1, if_ne (b := 16) (by omega) (by decide) (fun w2 => go ⟨by omega, Or.inr (by omega)⟩) (fun w2 => hV.no 7 (hV.flt hT (f2 (fun h => ?_))) (by decide) (by decide))⟩⟩
        rcases h.2 with ⟨s, hs, e⟩ | h
        · exact hno s hs e
        · omega
      · exact ⟨fun _ => go ⟨by omega, Or.inl ⟨s9, hs9, hag⟩⟩, fun q => absurd (Int32.not_lt.1 (nI_pos (by omega))) q⟩
    · cases hm
      obtain ⟨Q, F1, z1, rfl, hV, hT, hW, hf0, hQ16, rfl, rfl, rfl, rfl⟩ := h
      refine ⟨300, ?_⟩
      show (isO S1 15 t ∧ (0 = 0 ∧ ((pa (mR S1 1515 t) fun a_1 => (∃ (a_2 : Nat), nI a = nI a_2 ∧ (∃ (o_3 : Nat), (0 : Int32) = nI o_3 ∧ (∃ (F_4 : Nat → Nat × Nat) (i_5 : Nat) (y_6 : Nat → Nat) (G_7 : Gr) (T_8 : Tr) (W_9 : Nat → Nat) (s_10 : Nat) (pr_11 : List Nat), (g = y_6 0 ∧ RG S1 F_4 i_5 y_6 G_7 T_8 ∧ FO S1 F_4 ∧ i_5 ≠ 0 ∧ StR S1 a_1 o_3 W_9 ∧ (F_4 a_1).1 ≠ i_5 ∧ raP G_7 T_8 a_2 s_10 W_9 pr_11) ∧ evC1 kz (R.Q.G n) a nu PP.length + (ad1 G_7 s_10) ≤ nc_e1 kz (R.Q.G n) a nu ix PP oc ∧ evC2 kz (R.Q.G n) a nu PP.length + (ad2 G_7 s_10) ≤ nc_e2 kz (R.Q.G n) a nu ix PP oc ∧ (∀ (x_13 : Int32) (S_12 : MM), (x_13 = nI G_7.n) ∧ (adQ S1 S_12 F_4 i_5 y_6 G_7 T_8 a_2 s_10 W_9 pr_11) → (isO S_12 15 t ∧ (pa (mR S_12 1541 t) fun a_14 => ∃ v_15 : Int32, (isO S_12 17 a_14 ∧ inR S_12 a_14 (nI s) ∧ v_15 = eI S_12 a_14 (nI s).toNatClampNeg ∨ a_14 = (mQ S_12).1 ∧ vp_in (nI s) 16 ∧ v_15 = mRem (nI s).toNatClampNeg) ∧ ((¬ v_15 = 0 → (0 = 0 ∧ (∃ (e_16 : Nat), x_13 = nI e_16 ∧ (∃ (ix_17 : Nat), (lN ix).toInt32 = nI ix_17 ∧ (∃ (F_18 : Nat → Nat × Nat) (i_19 : Nat) (y_20 : Nat → Nat) (G_21 : Gr) (T_22 : Tr), (g = y_20 0 ∧ RG S_12 F_18 i_19 y_20 G_21 T_22 ∧ e_16 + 1 = G_21.n ∧ (G_21.ev e_16).ch = none ∧ (G_21.ev e_16).tg = 8192 ∧ ix_17 < (T_22.od.filter (snW G_21 (G_21.ev e_16).pa)).length) ∧ evC1 kz (R.Q.G n) a nu PP.length + (ad1 G_7 s_10) ≤ nc_e1 kz (R.Q.G n) a nu ix PP oc ∧ evC2 kz (R.Q.G n) a nu PP.length + (ad2 G_7 s_10) ≤ nc_e2 kz (R.Q.G n) a nu ix PP oc ∧ (∀ (S_23 : MM), (∃ j t, atP T_22.od (snW G_21 (G_21.ev e_16).pa) ix_17 j ∧ T_22.od.getD j 0 = t + 1 ∧ RG S_23 F_18 i_19 y_20 (G_21.setD e_16 ix_17 t) T_22 ∧ Keep (gO F_18 i_19) S_12 S_23 ∧ mI S_23 1326 (y_20 0) = mI S_12 1326 (y_20 0)) → (([] : List MV) = [] ∧ mret (some .int) (sp_revt t g s k9 num ind c F z Y R kz n a nu ix kd PP oc) [.inr (.inr (some t)), .inr (.inr (some g)), .inl (nI s), .inl (nI k9), .inr (.inl num), .inr (.inl ind), .inl c] S (some (.inl (0 : Int32))) S_23 (evC1 kz (R.Q.G n) a nu PP.length + (ad1 G_7 s_10)) (evC2 kz (R.Q.G n) a nu PP.length + (ad2 G_7 s_10))))))))) ∧ (v_15 = 0 → (0 = 0 ∧ (∃ (e_24 : Nat), x_13 = nI e_24 ∧ (∃ (ix_25 : Nat), (lN ix).toInt32 = nI ix_25 ∧ (∃ (c_26 : Nat), c = nI c_26 ∧ (∃ (F_27 : Nat → Nat × Nat) (i_28 : Nat) (y_29 : Nat → Nat) (G_30 : Gr) (T_31 : Tr), (g = y_29 0 ∧ RG S_12 F_27 i_28 y_29 G_30 T_31 ∧ e_24 + 1 = G_30.n ∧ (G_30.ev e_24).ch = none ∧ (G_30.ev e_24).tg = 8192 ∧ e_24 + 1 ∉ T_31.od ∧ T_31.ok ∧ ix_25 ≤ (T_31.od.filter (snW G_30 (G_30.ev e_24).pa)).length ∧ c_26 < 2000000) ∧ evC1 kz (R.Q.G n) a nu PP.length + (ad1 G_7 s_10) ≤ nc_e1 kz (R.Q.G n) a nu ix PP oc ∧ evC2 kz (R.Q.G n) a nu PP.length + (ad2 G_7 s_10) ≤ nc_e2 kz (R.Q.G n) a nu ix PP oc ∧ (∀ (S_32 : MM), (inQ2 S_12 S_32 F_27 i_28 y_29 G_30 T_31 e_24 ix_25 c_26) → (([] : List MV) = [] ∧ mret (some .int) (sp_revt t g s k9 num ind c F z Y R kz n a nu ix kd PP oc) [.inr (.inr (some t)), .inr (.inr (some g)), .inl (nI s), .inl (nI k9), .inr (.inl num), .inr (.inl ind), .inl c] S (some (.inl (0 : Int32))) S_32 (evC1 kz (R.Q.G n) a nu PP.length + (ad1 G_7 s_10)) (evC2 kz (R.Q.G n) a nu PP.length + (ad2 G_7 s_10)))))))))))))))))))))
      obtain ⟨hM, rfl, hnum, hind, hD, hP⟩ := hp
      obtain ⟨hn, ha, hnu, hix, hge, hPl, hPP, hk9, -, hGT⟩ := id hP
      have hMI := hV.1
      have g := (hMI 2 n hn).2.1
      have hnn := g.ok.hn
      have r15 := hMI 1 15 (by decide)
      have n15 : mN S1 (z1 15) = 16 := r15.2.2.2
      have hk40 : kz 40 ≤ 131072 := (hM 11).2.2.2.1
      have hst : StR S1 (z1 15) 0 ((R.Q.G n).jn Q) := ⟨r15.2.2.1, by rw [n15]; exact Nat.le_refl _, by rw [n15]; decide, fun s hs => by rw [Nat.zero_add]; exact hW s hs⟩
      have hoc : ∀ ch, oc = some ch → ch < 2000000 := fun ch e => by
        rcases hP.2.2.2.2.2.2.2.2.1 with ⟨-, ch', h1, h2, -⟩ | h
        · rw [h1] at e; cases e; exact h2
        · rw [h.2.2] at e; cases e
      have hE : EnP (R.Q.G n) a Q oc ix (slt (R.Q.G n) a) := flt_enp g.ok hf0 hV.2.2 ha hQ16 hT.2.2 hoc
      obtain ⟨L, hL⟩ := srt_exE g.ok hE.2.2.2.1 hT.2.2 (slt (R.Q.G n) a) a
      have hra := raP_of hE hGT hL
      have ev0 : nc_eV (R.Q.G n) a nu ix PP (oc ≠ none) = 0 := (hV.flt hT hf0).symm
      have kc1 : evC1 kz (R.Q.G n) a nu PP.length + ad1 (R.Q.G n) (slt (R.Q.G n) a) ≤ nc_e1 kz (R.Q.G n) a nu ix PP oc := by unfold nc_e1; rw [ift_t ev0]; exact Nat.le_refl _
      have kc2 : evC2 kz (R.Q.G n) a nu PP.length + ad2 (R.Q.G n) (slt (R.Q.G n) a) ≤ nc_e2 kz (R.Q.G n) a nu ix PP oc := by unfold nc_e2; rw [ift_t ev0]; exact Nat.le_refl _
      refine ⟨(hMI 0).1, rfl, pa_i r15.1 ⟨a, rfl, 0, rfl, F1, 101 + n, Y n, R.Q.G n, R.Q.T n, (R.Q.G n).jn Q, slt (R.Q.G n) a, L, ⟨rfl, g, hMI 12, by omega, hst, by rw [r15.2.1]; show 100 ≠ 101 + n; omega, hra⟩, kc1, kc2, fun x S12 hx => ?_⟩⟩
      obtain ⟨rfl, F2, y2, q1, q2, q3, q4, q5, q6, q7⟩ := hx
      have no : ∀ {b o v}, F1 b = (o, v) → o ≠ 101 + n → ¬ gO F1 (101 + n) b := fun {b o v} e ho q => by
        have := q.own
        rw [e] at this
        exact ho this
      have kt := q4.2.1 t (hMI 0).1.1 (no (hMI 0).2 (by omega))
      obtain ⟨z41, e41, -, m41, o41, n41⟩ := hV.row hM (j := 41) (by decide) (by decide)
      have n41 : mN S1 (z1 41) = kz 40 := n41 (by decide)
      have r41 := hMI 1 41 (by decide)
      have k41 := q4.2.1 (z1 41) o41.1 (no r41.2.1 (by omega))
      have ds := hD.1
      have d2 := hD.2.2.1
      have cs : (nI s).toNatClampNeg = s := nI_clamp (by omega)
      have y0 : Y n 0 = y2 0 := (q5 0 (by decide)).symm
      obtain ⟨pa1, pa2, pa3⟩ := own_pa (R.Q.G n) (slt (R.Q.G n) a) a ((R.Q.G n).jn Q) L
      have pn : (R.Q.G n).n + 1 = (pGr (eGr (R.Q.G n) (slt (R.Q.G n) a) a) (slt (R.Q.G n) a) ((R.Q.G n).jn Q) L).n := by
        show _ = (eGr (R.Q.G n) (slt (R.Q.G n) a) a).n + 1
        rw [(eGr_n _ _ a).1]
      have hn8 : (eGr (R.Q.G n) (slt (R.Q.G n) a) a).n ≤ 8192 := by rw [(eGr_n _ _ a).1]; exact hnn
      have hlen : ((R.Q.T n).od.filter (snW (pGr (eGr (R.Q.G n) (slt (R.Q.G n) a) a) (slt (R.Q.G n) a) ((R.Q.G n).jn Q) L) ((R.Q.G n).jn Q))).length = c1 (R.Q.G n) ((R.Q.G n).jn Q) (R.Q.G n).n := by
        have hge9 : GT (eGr (R.Q.G n) (slt (R.Q.G n) a) a) (R.Q.T n) := OwSl.gt hE.2.2.2.2.2.2.1 hGT ha
        rw [List.filter_congr (fun x hx => (snW_pnd (pnd_od hGT (slt (R.Q.G n) a) a hx) hn8).1), ← hge9.c1, (eGr_n _ _ a).1, eGr_c1]
      have fin : ∀ S9 G' T', StpE (R.Q.G n) (R.Q.T n) a Q oc ix (slt (R.Q.G n) a) G' T' → RG S9 F2 (101 + n) y2 G' T' → Keep (gO F2 (101 + n)) S12 S9 → mI S9 1326 (y2 0) = mI S12 1326 (y2 0) → (∀ s, (R.Q.G n).cn s ≤ G'.cn s) → (∀ x, x ∈ (R.Q.T n).od → x ∈ T'.od) → (([] : List MV) = [] ∧ mret (some .int) (sp_revt t (Y n 0) s k9 num ind c F z Y R kz n a nu ix kd PP oc) [.inr (.inr (some t)), .inr (.inr (some (Y n 0))), .inl (nI s), .inl (nI k9), .inr (.inl num), .inr (.inl ind), .inl c] S (some (.inl (0 : Int32))) S9 (evC1 kz (R.Q.G n) a nu PP.length + ad1 (R.Q.G n) (slt (R.Q.G n) a)) (evC2 kz (R.Q.G n) a nu PP.length + ad2 (R.Q.G n) (slt (R.Q.G n) a))) := fun S9 G' T' hS hg hk h26 hcn hod => by
        have hkk : Keep (gO F1 (101 + n)) S1 S9 := Keep.trN q4 hk (fun b hb q => by
          obtain ⟨k', e1, e2⟩ := q
          exact ⟨k', by rw [← q3 b hb]; exact e1, e2⟩)
        have hFO : FO S9 F2 := fun b hb => (hk.1 b (q2 b hb)).1
        have hMD := hMI.gr hn hkk (by rw [y0, h26, ← y0]; exact q7) hg q5 q3 hFO hcn hod
        have kt9 := hkk.2.1 t (hMI 0).1.1 (no (hMI 0).2 (by omega))
        refine ⟨rfl, trivial, ⟨0, rfl, 0, F2, z1, _, G', T', rfl, by decide, ⟨ev0.symm, Or.inr ⟨rfl, Q, hT.2.1, hQ16, hS⟩⟩, hMD, (hV.2.1.rh n).tr ⟨hkk.mono (fun b _ e => Or.inr (Or.inr e.own)), q3, fun f _ => kt9.1 f, fun f _ => kt9.2.1 f, fun _ => Or.inl rfl⟩, fun q => ?_⟩, kc1, kc2⟩
        by_cases cq : q = n
        · subst cq
          have e1 : upY Y q (fun k => if 116 ≤ k then Y q k else y2 k) q = fun k => if 116 ≤ k then Y q k else y2 k := if_pos rfl
          rw [e1]
          exact q5 0 (by decide)
        · have e1 : upY Y n (fun k => if 116 ≤ k then Y n k else y2 k) q = Y q := if_neg cq
          rw [e1]
      have hk3 := hP.k3
      have hcn0 : ∀ s, (R.Q.G n).cn s ≤ (pGr (eGr (R.Q.G n) (slt (R.Q.G n) a) a) (slt (R.Q.G n) a) ((R.Q.G n).jn Q) L).cn s := fun s => by rw [pGr_cn, eGr_cn]; exact Nat.le_add_right _ _
      refine ⟨q4.isO (hMI 0).1, rdI (v := nI kd) ((kt.2.1 _).trans m41) (q4.isO o41) (inRn ((q4.1 _ o41.1).2.2.trans n41) ds (by omega)) (by rw [cs, k41.2.2.2.1, e41]; exact d2) (if_ne (b := 0) (by omega) (by decide) (fun w => ?_) (fun w => ?_))⟩
      · have oc0 : oc = none := by
          rcases hP.2.2.2.2.2.2.2.2.1 with h | h
          · exact absurd h.1 w
          · exact h.2.2
        subst oc0
        have hix2 : ix < c1 (R.Q.G n) ((R.Q.G n).jn Q) (R.Q.G n).n := hE.2.2.2.2.2.2.2.2.2 rfl
        have hc1l := c1_le (R.Q.G n) ((R.Q.G n).jn Q) (R.Q.G n).n
        refine ⟨rfl, _, rfl, ix, lN_32 (by omega), F2, 101 + n, y2, _, R.Q.T n, ⟨y0, q1, pn, pa2, pa3, by rw [pa1, hlen]; exact hix2⟩, kc1, kc2, fun S23 hx => ?_⟩
        obtain ⟨j, t9, a1, a2, a3, a4, a5⟩ := hx
        rw [pa1] at a1
        exact fin S23 _ _ (stp_del hE hGT hL a1 a2) a3 a4 a5 (fun s => by rw [setD_cn]; exact hcn0 s) (fun x hx => hx)
      · rcases hP.2.2.2.2.2.2.2.2.1 with ⟨-, ch, h1, h2, h3⟩ | h
        · subst h1
          have hix2 : ix ≤ c1 (R.Q.G n) ((R.Q.G n).jn Q) (R.Q.G n).n := (hE.2.2.2.2.2.2.2.2.1 ch rfl).2
          have hc1l := c1_le (R.Q.G n) ((R.Q.G n).jn Q) (R.Q.G n).n
          refine ⟨rfl, _, rfl, ix, lN_32 (by omega), ch, h3, F2, 101 + n, y2, _, R.Q.T n, ⟨y0, q1, pn, pa2, pa3, gt_new hGT, hGT.2.2.1, by rw [pa1, hlen]; exact hix2, h2⟩, kc1, kc2, fun S32 hx => ?_⟩
          obtain ⟨T', U, V, a1, a3, a4, aU, aV, a5⟩ := hx
          rw [pa1] at a1
          refine fin S32 _ _ (stp_ins hE hGT hL a1 aU aV) a3 a4 a5 (fun s => by rw [setI_cn]; exact hcn0 s) (fun x hx => ?_)
          rw [aU] at hx
          rw [aV]
          rcases List.mem_append.1 hx with w | w
          · exact List.mem_append_left _ w
          · exact List.mem_append_right _ (List.mem_cons_of_mem _ w)
        · exact absurd w h.1
theorem u_revt (l : Launch) : Us l yX14_event cX14_event 15 (some .int) 4 101 15 T_revt := by
  intro Rc Rs av S cs sl K Kx h
  unfold T_revt at h
  split at h
  · rename_i t_o g_o s_v k9_v num ind c
    obtain ⟨t, rfl, h_1⟩ := pa_of h
    obtain ⟨g, rfl, h_2⟩ := pa_of h_1
    obtain ⟨s, rfl, h_3⟩ := h_2
    obtain ⟨k9, rfl, h_4⟩ := h_3
    obtain ⟨F, z, Y, R, kz, n, a, nu, ix, kd, PP, oc, hp, hc, hs, hk⟩ := h_4
    refine ⟨(sp_revt t g s k9 num ind c F z Y R kz n a nu ix kd PP oc), c_revt l t g s k9 num ind c F z Y R kz n a nu ix kd PP oc, fun _ _ h9 => ⟨_, _, h9.1, (h9.2.1 0).1⟩, ⟨rfl, hp⟩, hc, hs, fun v9 S' h8 => by
      obtain ⟨v8, h7, h8⟩ := h8
      cases h7
      exact hk _ _ h8, fun _ _ q => q.elim⟩
  · exact h.elim
