/-! ===== Calls that write: both sides alike, and what holds stays ===== -/
section CLS
variable {Q Q1 : Ab} {R R1 : Rb} {n : Nat} {p x y v v' : Int32} {c th : Nat}
theorem roP.ow {G : Gr} {p m : Nat} (h : roP G p m) (hm : m ≠ 0) : OwSl G p (owN G p) := owN_ok (h.resolve_left hm).2
theorem run_ch {p s : Nat} {G' : Gr} {T' : Tr} : ∀ {L : List Nat} {i : Nat} {G : Gr} {T : Tr}, Run p s (insO i L) G T G' T' → ∀ c, c ∈ L → c < 2000000
  | [], i, G, T, h, c, hc => by cases hc
  | a :: L, i, G, T, h, c, hc => by
    obtain ⟨G1, T1, ⟨H, -, e, e1, e2, e3, e4, e5, e6, e7, -⟩, h2⟩ := h
    rcases List.mem_cons.1 hc with w | w
    · rw [w]
      exact e7.2.2.2.2.2.2.2.2.1 a e5
    · exact run_ch h2 c w
/-- insert -/
theorem LIv.ins (h : LIv Q R) (hn : n < 4) {i : Nat} {L : List Nat} {G' : Gr} {T' : Tr} (hro : roP (Q.G n) n L.length) (hr : Run n (owN (Q.G n) n) (insO i L) (Q.G n) (Q.T n) G' T') : LIv ((Q.sPe n G' T' (if L.length = 0 then Q.E n else Q.E n ++ [((Q.G n).n, L.length)])).sTp []) (inN R n G' T' L.length) := by
  obtain ⟨h1, -, -, h4, h5⟩ := id h
  obtain ⟨g1, g2, g3⟩ := h4 n hn
  have ll := insO_len i L
  have hs : insO i L ≠ [] → OwSl (Q.G n) n (owN (Q.G n) n) := fun w => hro.ow (fun z => w (List.eq_nil_of_length_eq_zero (by rw [ll, z])))
  have hw := hr.gw hs g1
  have hC : CaL G' T' n (if L.length = 0 then Q.E n else Q.E n ++ [((Q.G n).n, L.length)]) (if L.length = 0 then R.C n else R.C n ++ [(true, (agE (R.Q.G n) n).length, L.length)]) := by
    by_cases z : L.length = 0
    · rw [if_pos z, if_pos z]
      exact g3.gw hw g1
    · rw [if_neg z, if_neg z]
      have hne : insO i L ≠ [] := fun w => z (by rw [← ll, w]; rfl)
      obtain ⟨e1, e2⟩ := ins_edx (p := n) (s := owN (Q.G n) n) (i := i) (n0 := (Q.G n).n) (j := 0) (L := L) (by omega) hr g1 (fun _ => hs hne) rfl (fun k k' _ w => absurd w (Nat.not_lt_zero _)) (fun k w => absurd w (Nat.not_lt_zero _)) (fun w => absurd w (Nat.lt_irrefl _))
      rw [Nat.zero_add] at e1 e2
      have := g3.run (s := owN (Q.G n) n) (b := true) (f := (agE (R.Q.G n) n).length) (L := insO i L) g1 (hs hne) (by rw [ll]; omega) hr (by rw [ll]; exact Or.inl ⟨e2, e1⟩) ⟨fun _ => e2 0 (by omega), fun _ => rfl⟩ (by rw [h1.1])
      rw [ll] at this
      exact this
  exact h.gr (Q1 := (Q.sPe n G' T' (if L.length = 0 then Q.E n else Q.E n ++ [((Q.G n).n, L.length)])).sTp []) (R1 := inN R n G' T' L.length) hn hw hC (fun hf => ⟨hf, (h5 hf).1.run hn g1 hs hr⟩) ((h1.tp []).pe n G' T' _ _) rfl rfl rfl rfl rfl rfl rfl rfl
/-- delete -/
theorem LIv.del (h : LIv Q R) (hn : n < 4) {i m : Nat} {G' : Gr} {T' : Tr} (hm : 1 ≤ m) (hro : roP (Q.G n) n m) (hr : Run n (owN (Q.G n) n) (List.replicate m (none, i)) (Q.G n) (Q.T n) G' T') : LIv (Q.sPe n G' T' (Q.E n ++ [((Q.G n).n, m)])) (R.sP n G' T' (R.Q.Kn n) (R.C n ++ [(false, (agE (R.Q.G n) n).length, m)])) := by
  obtain ⟨h1, -, -, h4, h5⟩ := id h
  obtain ⟨g1, g2, g3⟩ := h4 n hn
  have hs : OwSl (Q.G n) n (owN (Q.G n) n) := hro.ow (by omega)
  have hw := hr.gw (fun _ => hs) g1
  have ll : (List.replicate m ((none : Option Nat), i)).length = m := List.length_replicate
  obtain ⟨e1, e2⟩ := del_edx (p := n) (s := owN (Q.G n) n) (i := i) (n0 := (Q.G n).n) (j := 0) (m := m) (by omega) hr g1 (fun _ => hs) rfl (fun k k' _ w => absurd w (Nat.not_lt_zero _)) (fun k w => absurd w (Nat.not_lt_zero _)) (fun j' w => absurd w (Nat.succ_ne_zero j'))
  rw [Nat.zero_add] at e1 e2
  have hC := g3.run (s := owN (Q.G n) n) (b := false) (f := (agE (R.Q.G n) n).length) (L := List.replicate m (none, i)) g1 hs (by rw [ll]; exact hm) hr (by rw [ll]; exact Or.inr ⟨e2, e1⟩) ⟨(fun w => by cases w), (fun w => absurd (e2 0 (by omega)) w)⟩ (by rw [h1.1])
  rw [ll] at hC
  exact h.gr (Q1 := Q.sPe n G' T' (Q.E n ++ [((Q.G n).n, m)])) (R1 := R.sP n G' T' (R.Q.Kn n) (R.C n ++ [(false, (agE (R.Q.G n) n).length, m)])) hn hw hC (fun hf => ⟨hf, (h5 hf).1.run hn g1 (fun _ => hs) hr⟩) (h1.pe n G' T' _ _) rfl rfl rfl rfl rfl rfl rfl rfl
/-- own events that undo -/
theorem RuR.run {p s : Nat} {b : Bool} {G' : Gr} {T' : Tr} : ∀ {L : List Nat} {G : Gr} {T : Tr}, RuR p s b L G T G' T' → ∃ M, M.length = L.length ∧ Run p s M G T G' T'
  | [], G, T, h => ⟨[], rfl, h⟩
  | x :: L, G, T, h => by
    obtain ⟨G1, T1, h1, h2⟩ := h
    obtain ⟨M, m1, m2⟩ := RuR.run h2
    exact ⟨(_, _) :: M, by rw [List.length_cons, List.length_cons, m1], G1, T1, h1, m2⟩
/-- undo: the last edit is the last call -/
theorem LIv.last (h : LIv Q R) (hn : n < 4) {e : Nat × Nat} {d : Nat} {c : Bool × Nat × Nat} (he : (Q.E n).getLast? = some e) (hd : d + 1 = (R.C n).length) (hc : (R.C n)[d]? = some c) : 1 ≤ e.2 ∧ EdX (Q.G n) (Q.T n) e.1 e.2 ∧ CaE (Q.G n) n e c ∧ OwSl (Q.G n) n (owN (Q.G n) n) := by
  obtain ⟨h1, -, -, h4, h5⟩ := id h
  obtain ⟨g1, g2, g3⟩ := h4 n hn
  have he : (Q.E n)[d]? = some e := by
    rw [List.getLast?_eq_getElem?, g3.2.1, ← hd, Nat.add_sub_cancel] at he
    exact he
  obtain ⟨b1, b2, b3, b4⟩ := g3.2.2 d e c he hc
  refine ⟨b1, b3, b4, owN_ok (Or.inl ?_)⟩
  obtain ⟨q1, q2, -⟩ := (agE_at g1.1).1 (b4.2.2 0 b1)
  exact ⟨_, g1.1.sl1 _ q1, q2⟩
theorem LIv.und (h : LIv Q R) (hn : n < 4) {b : Bool} {L : List Nat} {G' : Gr} {T' : Tr} (hs : OwSl (Q.G n) n (owN (Q.G n) n)) (hr : RuR n (owN (Q.G n) n) b L (Q.G n) (Q.T n) G' T') : LIv (Q.sPe n G' T' (Q.E n).dropLast) (R.sP n G' T' (R.Q.Kn n) (R.C n).dropLast) := by
  obtain ⟨h1, -, -, h4, h5⟩ := id h
  obtain ⟨g1, g2, g3⟩ := h4 n hn
  obtain ⟨M, -, hM⟩ := hr.run
  have hw := hM.gw (fun _ => hs) g1
  exact h.gr (Q1 := Q.sPe n G' T' (Q.E n).dropLast) (R1 := R.sP n G' T' (R.Q.Kn n) (R.C n).dropLast) hn hw (g3.gw hw g1).drop (fun hf => ⟨hf, (h5 hf).1.run hn g1 (fun _ => hs) hM⟩) (h1.pe n G' T' _ _) rfl rfl rfl rfl rfl rfl rfl rfl
/-- a message is read -/
theorem LIv.dlv {B : List Nat} {c' f : Nat} {kz kz' : Nat → Nat} (h : LIv Q R) (hn : n < 4) (hB : ∀ b ∈ B, b < 256) (hK : Q.fo = 0 → KiB Q.G B) (hc : dlv Q n B c Q1) (hr : rdX R n B kz R1 kz' f c') : Q1.ft = f ∧ c' = c ∧ LIv Q1 (R1.sQ (R1.Q.sFt f)) := by
  obtain ⟨h1, -, -, h4, h5⟩ := id h
  obtain ⟨g1, g2, g3⟩ := h4 n hn
  obtain ⟨a1, a2, a3⟩ := ag_rd h1 g1 hB hc hr
  refine ⟨a1, a2, ?_⟩
  have eR : R1.C = R.C ∧ R1.M = R.M := by
    rcases hr with ⟨-, -, rfl, -⟩ | ⟨-, -, -, rfl, -⟩ | ⟨-, -, G', T', -, rfl, -⟩
    · exact ⟨rfl, rfl⟩
    · exact ⟨upF_id _ _, rfl⟩
    · exact ⟨rfl, rfl⟩
  rcases hc with ⟨-, -, rfl⟩ | ⟨-, -, -, rfl⟩ | ⟨-, -, f1, -, -, rfl⟩ | ⟨b1, b2, L, E, G', T', f1, b3, b4, -, -, -, rfl⟩
  · exact h.cg a3 rfl rfl rfl rfl rfl rfl rfl eR.1 eR.2
  · exact h.cg a3 rfl rfl rfl rfl rfl rfl rfl eR.1 eR.2
  · exact h.cg a3 rfl rfl rfl rfl rfl rfl rfl eR.1 eR.2
  · obtain ⟨m, hw⟩ := b4.gw g1
    exact h.gr (Q1 := (Q.sPe n G' T' (Q.E n)).sFt f1) (R1 := R1.sQ (R1.Q.sFt f)) hn hw (g3.gw hw g1) (fun hf => ⟨hf, (h5 hf).1.br g1 b4 (hK hf b1 b2 L E b3)⟩) a3 rfl rfl rfl rfl rfl rfl (by show R1.C = _; rw [eR.1, upF_id]) eR.2
theorem dlv_tp {B : List Nat} (X : List Nat) (hc : dlv Q n B c Q1) : dlv (Q.sTp X) n B c (Q1.sTp X) := by
  rcases hc with ⟨a1, a2, rfl⟩ | ⟨a1, a2, a3, rfl⟩ | ⟨a1, a2, f1, a3, a4, rfl⟩ | ⟨a1, a2, L, E, G', T', f1, a3, a4, a5, a6, a7, rfl⟩
  · exact Or.inl ⟨a1, a2, rfl⟩
  · exact Or.inr (Or.inl ⟨a1, a2, a3, rfl⟩)
  · exact Or.inr (Or.inr (Or.inl ⟨a1, a2, f1, a3, a4, rfl⟩))
  · exact Or.inr (Or.inr (Or.inr ⟨a1, a2, L, E, G', T', f1, a3, a4, a5, a6, a7, rfl⟩))
/-- load begins -/
theorem LIv.ld (h : LIv Q R) : LIv ((Q.sFo 1).sTp []) (ldR R) := by
  obtain ⟨h1, h2, h3, h4, h5⟩ := h
  refine ⟨?_, h2, h3, h4, fun hf => absurd hf (by show ¬ (1 = 0); decide)⟩
  obtain ⟨q1, q2, q3, q4, q5, q6, q7, q8, q9, q10, q11, q12⟩ := h1
  exact ⟨q1, q2, q3, rfl, q5, q6, rfl, q8, q9, q10, q11, q12⟩
/-- a patch is put into a slot -/
theorem rmA_lt {V : Nat → List Int32} {p : Nat} (hp : p < 4) (hl : (rmB V p 5).length + 4 ≤ 32768) : ∀ b ∈ rmA V p, b < 256 := by
  intro b hb
  unfold rmA at hb
  rcases List.mem_append.1 hb with w | w
  · rw [← co_B hp (pa_fit hl)] at w
    exact vB_lt _ b w
  · obtain ⟨k, -, rfl⟩ := List.mem_map.1 w
    exact b8_lt _
theorem LIv.snd (h : LIv Q R) (hn : n < 4) {o : Option Nat} (hl : paT (Q.G n) (Q.Kn n) o ≤ 32768) (i : Nat) : LIv (Q.sSl (upF Q.sl i (rmA (paF (Q.G n) (Q.Kn n) o) n))) (kpR R i (rmA (wpF R n o) n)) := by
  obtain ⟨h1, -, -, h4, h5⟩ := id h
  have e : wpF R n o = paF (Q.G n) (Q.Kn n) o := by
    unfold wpF
    rw [h1.1, h1.2.2.1]; rfl
  rw [e]
  exact h.sl (h1.slt i _) (fun hf => KiB.sent (h5 hf).1 hn (h4 n hn).1 hl (rmA_lt hn ((pa_iff _ n).1 hl))) rfl rfl rfl rfl rfl rfl id rfl rfl
theorem LIv.ann (h : LIv Q R) (m i : Nat) : LIv (Q.sSl (upF Q.sl i (rsmW R m))) (kpR R i (rsmW R m)) := h.sl (h.1.slt i _) (fun _ f1 f2 => absurd (by rfl : bAt (rsmW R m) 1 = 2) f2) rfl rfl rfl rfl rfl rfl id rfl rfl
theorem LIv.alt (h : LIv Q R) (i j b : Nat) (hj : j < (Q.sl i).length) (hf2 : Q.fo < 2) : LIv ((Q.sSl (upF Q.sl i ((Q.sl i).set j b))).sFo (if Q.fo = 1 ∨ (Q.sl i).getD j 0 ≠ b then 1 else 0)) (alD R i j b) := by
  by_cases c : Q.fo = 1 ∨ (Q.sl i).getD j 0 ≠ b
  · obtain ⟨h1, h2, h3, h4, h5⟩ := h
    exact ⟨h1.alt i j b, h2, h3, h4, fun hf => by
      have hf : (if Q.fo = 1 ∨ (Q.sl i).getD j 0 ≠ b then 1 else 0) = 0 := hf
      rw [if_pos c] at hf; cases hf⟩
  · have eb : (Q.sl i).getD j 0 = b := Decidable.byContradiction (fun w => c (Or.inr w))
    have es : (Q.sl i).set j b = Q.sl i := by
      rw [← eb, List.getD_eq_getElem?_getD, List.getElem?_eq_getElem hj]
      exact List.set_getElem_self hj
    obtain ⟨h1, h2, h3, h4, h5⟩ := h
    refine ⟨h1.alt i j b, h2, h3, h4, fun hf => ?_⟩
    show KiG Q.G ∧ ∀ k, k < 8 → KiB Q.G (upF Q.sl i ((Q.sl i).set j b) k)
    rw [es, upF_id]
    exact h5 (by have : Q.fo ≠ 1 := fun w => c (Or.inl w); omega)
end CLS
