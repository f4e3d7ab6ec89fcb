/-! ===== The reference writes a patch: its columns stand for the class's ===== -/
def vB (vs : List Int32) : List Nat := vs.map b8
theorem vB_app (a b : List Int32) : vB (a ++ b) = vB a ++ vB b := List.map_append
theorem vB_len (a : List Int32) : (vB a).length = a.length := List.length_map _
theorem b8_or {m : Nat} (h : m < 2147483648) : b8 (nI m &&& 127 ||| 128) = m % 128 + 128 := by
  unfold b8
  rw [Int32.toBitVec_or, Int32.toBitVec_and, BitVec.toNat_or, BitVec.toNat_and, pk_tn (by omega)]
  show (m &&& 127 ||| 128) % 256 = _
  have e1 : m &&& 127 = m % 128 := Nat.and_two_pow_sub_one_eq_mod m 7
  have h1 : m % 128 < 2 ^ 7 := Nat.mod_lt _ (by decide)
  have e2 : m % 128 ||| 128 = m % 128 + 128 := by
    have := Nat.two_pow_add_eq_or_of_lt h1 1
    rw [Nat.or_comm]
    show 2 ^ 7 * 1 ||| m % 128 = _
    rw [← this]
    omega
  rw [e1, e2]
  omega
theorem vbs_N : ∀ (k : Nat) {v : Nat}, v < 2 ^ (7 * (k + 1)) → v < 2147483648 → vB (vbs k (nI v)) = vbN (k + 1) v
  | 0, v, h, _ => by
    have h : v < 128 := h
    rw [vbN, if_pos (by omega)]
    show [b8 (nI v)] = [v]
    rw [b8_nI (by omega)]
  | k + 1, v, h, h2 => by
    have hle := nI_127 h2
    rw [vbs, vbN]
    by_cases c : v ≤ 127
    · rw [if_pos c, if_pos (hle.2 c)]
      show [b8 (nI v)] = [v]
      rw [b8_nI (by omega)]
    · rw [if_neg c, if_neg (fun q => c (hle.1 q)), ush7_nI h2]
      show b8 _ :: vB (vbs k (nI (v / 128))) = _
      rw [b8_or h2, vbs_N k (by
        rw [show 7 * (k + 1 + 1) = 7 * (k + 1) + 7 by omega, Nat.pow_add] at h
        exact Nat.div_lt_of_lt_mul (by rw [Nat.mul_comm]; exact h)) (by omega)]
theorem vbs_5 {v : Nat} (h : v < 2147483648) : vB (vbs 4 (nI v)) = vbN 5 v := vbs_N 4 (Nat.lt_of_lt_of_le h (by decide)) h
theorem vbs_le2 {v : Nat} (h : v < 16384) : (vbs 4 (nI v)).length ≤ 2 := by
  rw [← vB_len, vbs_5 (by omega), vbN]
  split
  · exact Nat.le_of_ble_eq_true rfl
  · rw [vbN, if_pos (by omega)]; exact Nat.le_refl _
theorem vbs_le3 {v : Nat} (h : v < 2097152) : (vbs 4 (nI v)).length ≤ 3 := by
  rw [← vB_len, vbs_5 (by omega), vbN]
  split
  · exact Nat.le_of_ble_eq_true rfl
  · rw [vbN]
    split
    · exact Nat.le_of_ble_eq_true rfl
    · rw [vbN, if_pos (by omega)]; exact Nat.le_refl _
/-- its six columns -/
def OuC (S : MM) (z : Nat → Nat) (V : Nat → List Int32) : Prop := ∀ k, k < 6 → Ou S (z (25 + k)) (z (70 + (25 + k))) (vB (V k))
def wO (F : Nat → Nat × Nat) (c : Nat) : Prop := (F c).1 = 100 ∨ (F c).1 = 110
/-- a patch is being written: columns, agents listed, the index that is expected -/
def wpS (S S1 : MM) (F : Nat → Nat × Nat) (t : Nat) (z : Nat → Nat) (Y : Nat → Nat → Nat) (R : Rb) (kz : Nat → Nat) (V : Nat → List Int32) (M : List Nat) (ex : Int32) : Prop := MD S1 F t z Y R kz ∧ OuC S1 z V ∧ lsP S1 t z M ∧ mI S1 1533 t = ex ∧ Keep (wO F) S S1 ∧ mI S1 1551 t = mI S 1551 t
section WPS
variable {S S1 S2 : MM} {F : Nat → Nat × Nat} {t : Nat} {z : Nat → Nat} {Y : Nat → Nat → Nat} {R : Rb} {kz : Nat → Nat} {V : Nat → List Int32} {M : List Nat} {ex : Int32}
theorem OuC.kp {P : Nat → Prop} (h : OuC S1 z V) (hM : MD S1 F t z Y R kz) (hk : Keep P S1 S2) (hP : ∀ b, (F b).1 = 110 → ¬ P b) : OuC S2 z V := fun k hk9 => by
  obtain ⟨-, a2, a3, -⟩ := hM 10 (25 + k) (Or.inr (by omega))
  exact (h k hk9).kp hk (hP _ (by rw [a2])) (hP _ (by rw [a3]))
theorem OuC.up (h : OuC S1 z V) (hM : MD S1 F t z Y R kz) {k0 : Nat} (h0 : k0 < 6) {vs : List Int32} (hk : Keep (fun c => c = z (25 + k0) ∨ c = z (70 + (25 + k0))) S1 S2) (ho : Ou S2 (z (25 + k0)) (z (70 + (25 + k0))) (vB vs)) : OuC S2 z (updI V k0 vs) := fun k hk9 => by
  unfold updI
  split
  · next e => rw [e]; exact ho
  · next c =>
    obtain ⟨-, b2, b3, -⟩ := hM 10 (25 + k0) (Or.inr (by omega))
    obtain ⟨-, a2, a3, -⟩ := hM 10 (25 + k) (Or.inr (by omega))
    have no : ∀ {x v}, F x = (110, v) → v ≠ 25 + k0 → v ≠ 100 + (25 + k0) → ¬ (x = z (25 + k0) ∨ x = z (70 + (25 + k0))) := fun {x v} e h1 h2 q => by
      rcases q with q | q
      · rw [q, b2] at e
        injection e with _ e
        omega
      · rw [q, b3] at e
        injection e with _ e
        omega
    exact (h k hk9).kp hk (no a2 (by omega) (by omega)) (no a3 (by omega) (by omega))
theorem wpS.out (h : wpS S S1 F t z Y R kz V M ex) {k0 : Nat} (h0 : k0 < 6) {vs : List Int32} (ho : Ou S2 (z (25 + k0)) (z (70 + (25 + k0))) (vB vs)) (hk : Keep (fun c => c = z (25 + k0) ∨ c = z (70 + (25 + k0))) S1 S2) : wpS S S2 F t z Y R kz (updI V k0 vs) M ex := by
  obtain ⟨hM, hC, hL, hE, hK, h51⟩ := h
  obtain ⟨b1, b2, b3, -⟩ := hM 10 (25 + k0) (Or.inr (by omega))
  obtain ⟨m2, -, -⟩ := hM.out (k0 := 25 + k0) (Or.inr (by omega)) hk ho
  have no : ∀ {x v}, F x = (100, v) → ¬ (x = z (25 + k0) ∨ x = z (70 + (25 + k0))) := fun {x v} e q => by
    rcases q with q | q
    · rw [q, b2] at e
      injection e with e _
      omega
    · rw [q, b3] at e
      injection e with e _
      omega
  have kt := hk.2.1 t (hM 0).1.1 (no (hM 0).2)
  have r31 := hM 1 31 (by decide)
  have k31 := hk.2.1 _ r31.2.2.1.1 (no r31.2.1)
  refine ⟨m2, hC.up hM h0 hk ho, ⟨(kt.1 _).trans hL.1, fun j hj => by rw [k31.2.2.2.1]; exact hL.2.1 j hj, hL.2.2⟩, (kt.1 _).trans hE, Keep.trN hK hk (fun b _ q => ?_), (kt.1 _).trans h51⟩
  rcases q with e | e
  · rw [e]; exact Or.inr (by rw [b2])
  · rw [e]; exact Or.inr (by rw [b3])
theorem wpS.num (h : wpS S S1 F t z Y R kz V M ex) {k0 : Nat} (h0 : k0 < 6) {n : Nat} (hn : n < 2147483648) (hq : ouP S1 S2 (z (25 + k0)) (z (70 + (25 + k0))) (vB (V k0) ++ vbN 5 n)) : wpS S S2 F t z Y R kz (updI V k0 (V k0 ++ vbs 4 (nI n))) M ex := by
  obtain ⟨o, k⟩ := hq
  rw [← vbs_5 hn, ← vB_app] at o
  exact h.out h0 o k
theorem wpS.scr {P : Nat → Prop} (h : wpS S S1 F t z Y R kz V M ex) (hk : Keep P S1 S2) (hM : MD S2 F t z Y R kz) (hP : ∀ b, P b → (F b).1 = 100) (hI : ∀ f, f = 1532 ∨ f = 1533 ∨ f = 1551 → mI S2 f t = mI S1 f t) (h31 : eI S2 (z 31) = eI S1 (z 31)) : wpS S S2 F t z Y R kz V M ex := by
  obtain ⟨hM1, hC, hL, hE, hK, h51⟩ := h
  refine ⟨hM, hC.kp hM1 hk (fun b hb q => by have := hP b q; omega), ⟨(hI _ (Or.inl rfl)).trans hL.1, fun j hj => by rw [h31]; exact hL.2.1 j hj, hL.2.2⟩, (hI _ (Or.inr (Or.inl rfl))).trans hE, Keep.trN hK hk (fun b _ q => Or.inl (hP b q)), (hI _ (Or.inr (Or.inr rfl))).trans h51⟩
theorem wpS.lst (h : wpS S S1 F t z Y R kz V M ex) {a : Nat} (hq : lsQ S1 S2 F t z Y R kz M a) : wpS S S2 F t z Y R kz V (madd M a) ex := by
  obtain ⟨hM1, hC, hL, hE, hK, h51⟩ := h
  obtain ⟨q1, q2, q3, q4, q5⟩ := hq
  have r31 := hM1 1 31 (by decide)
  have hP : ∀ b, b = t ∨ b = z 31 → (F b).1 = 100 := fun b hb => by
    rcases hb with e | e
    · rw [e, (hM1 0).2]
    · rw [e, r31.2.1]
  exact ⟨q1, hC.kp hM1 q3 (fun b hb q => by have := hP b q; omega), q2, (q4 _ (by decide)).trans hE, Keep.trN hK q3 (fun b _ q => Or.inl (hP b q)), (q4 _ (by decide)).trans h51⟩
theorem wpS.tps (h : wpS S S1 F t z Y R kz V M ex) (f : Nat → Int32) : wpS S (rI S1 (z 16) f) F t z Y R kz V M ex := by
  have hM1 := h.1
  have r16 := hM1 1 16 (by decide)
  have r31 := hM1 1 31 (by decide)
  have kp : Keep (fun c => c = z 16) S1 (rI S1 (z 16) f) := Keep.rI Keep.rf rfl
  have hP : ∀ b, b = z 16 → (F b).1 = 100 ∧ ∀ k, k ∈ mdP → F b ≠ (100, 100 + k) := fun b hb => by
    rw [hb, r16.2.1]
    refine ⟨rfl, fun k hk q => ?_⟩
    injection q with _ q
    revert hk; rw [show k = 16 by omega]; decide
  refine h.scr kp (hM1.keep0 kp hP (fun _ _ => rfl) (fun _ => rfl) (fun _ _ => rfl) (hM1 12)) (fun b hb => (hP b hb).1) (fun _ _ => rfl) ?_
  rw [eI_rI, if_neg]
  intro e
  have := r31.2.1
  rw [e, r16.2.1] at this
  injection this with _ this
  omega
theorem wpS.exp (h : wpS S S1 F t z Y R kz V M ex) (v : Int32) : wpS S (sI S1 1533 t v) F t z Y R kz V M v := by
  obtain ⟨hM, hC, hL, hE, hK, h51⟩ := h
  have kp : Keep (fun c => c = t) S1 (sI S1 1533 t v) := Keep.sI Keep.rf rfl
  have ht : (F t).1 = 100 := by rw [(hM 0).2]
  refine ⟨hM.sf (by decide) v, hC.kp hM kp (fun b hb q => by rw [q] at hb; omega), ⟨?_, hL.2⟩, by rw [mI_sI, if_pos ⟨rfl, rfl⟩], Keep.trN hK kp (fun b _ q => by rw [q]; exact Or.inl ht), ?_⟩
  · rw [mI_sI, if_neg (fun q => absurd q.1 (by decide))]; exact hL.1
  · rw [mI_sI, if_neg (fun q => absurd q.1 (by decide))]; exact h51
theorem updI_u {V : Nat → List Int32} {k : Nat} {v w : List Int32} : updI (updI V k v) k w = updI V k w := by
  funext i
  unfold updI
  split <;> rfl
theorem wpS.ou {X : List Int32} {k0 : Nat} (h : wpS S S1 F t z Y R kz (updI V k0 X) M ex) (h0 : k0 < 6) : Ou S1 (z (25 + k0)) (z (70 + (25 + k0))) (vB X) := by
  have := h.2.1 k0 h0
  rw [updI_s] at this
  exact this
theorem wpS.numX {X : List Int32} {k0 : Nat} (h : wpS S S1 F t z Y R kz (updI V k0 X) M ex) (h0 : k0 < 6) {n : Nat} (hn : n < 2147483648) (hq : ouP S1 S2 (z (25 + k0)) (z (70 + (25 + k0))) (vB X ++ vbN 5 n)) : wpS S S2 F t z Y R kz (updI V k0 (X ++ vbs 4 (nI n))) M ex := by
  have := h.num h0 hn (by rw [updI_s]; exact hq)
  rw [updI_s, updI_u] at this
  exact this
theorem ou16 (hM : MD S1 F t z Y R kz) {k0 : Nat} (h0 : k0 < 6) (hk : Keep (fun c => c = z (25 + k0) ∨ c = z (70 + (25 + k0))) S1 S2) : eI S2 (z 16) = eI S1 (z 16) := by
  obtain ⟨-, b2, b3, -⟩ := hM 10 (25 + k0) (Or.inr (by omega))
  have r16 := hM 1 16 (by decide)
  refine (hk.2.1 _ r16.2.2.1.1 (fun q => ?_)).2.2.2.1
  have e := r16.2.1
  rcases q with q | q
  · rw [q, b2] at e
    injection e with e _
    omega
  · rw [q, b3] at e
    injection e with e _
    omega
theorem ls16 (hM : MD S1 F t z Y R kz) (hk : Keep (fun c => c = t ∨ c = z 31) S1 S2) : eI S2 (z 16) = eI S1 (z 16) := by
  have r31 := hM 1 31 (by decide)
  have r16 := hM 1 16 (by decide)
  refine (hk.2.1 _ r16.2.2.1.1 (fun q => ?_)).2.2.2.1
  have e := r16.2.1
  rcases q with q | q
  · rw [q, (hM 0).2] at e
    injection e with _ e
    omega
  · rw [q, r31.2.1] at e
    injection e with _ e
    omega
theorem wpS.ml (h : wpS S S1 F t z Y R kz V M ex) : M.length ≤ 256 := len_256 h.2.2.1.2.2.1 h.2.2.1.2.2.2
end WPS
theorem lst_ix {L : List Nat} {a j : Nat} (hn : L.Nodup) (hj : j < (lsX L a).length) (e : (lsX L a).getD j 0 = a) : j = L.idxOf a := by
  unfold lsX at hj e
  by_cases c : a ∈ L
  · rw [if_pos c] at hj e
    have h1 := List.idxOf_lt_length_of_mem c
    have h2 : L[L.idxOf a] = a := List.getElem_idxOf h1
    rw [List.getD_eq_getElem?_getD, List.getElem?_eq_getElem hj] at e
    exact (List.getElem_inj hn).1 (show L[j] = L[L.idxOf a] from (by rw [h2]; exact e))
  · rw [if_neg c] at hj e
    rw [List.idxOf_eq_length c]
    rw [List.length_append] at hj
    have hj : j < L.length + 1 := hj
    by_cases c2 : j < L.length
    · rw [getD_app_l c2, List.getD_eq_getElem?_getD, List.getElem?_eq_getElem c2] at e
      exact absurd (show a ∈ L from (by have : L[j] = a := e; rw [← this]; exact List.getElem_mem c2)) c
    · omega
/-- an event whose only parent is the one before of its agent has the next number -/
theorem nu_next {G : Gr} (h : G.ok) {f l : Nat} (hf : f < G.n) (hp : (G.ev f).pr = [l]) (hs : (G.ev f).sl = (G.ev l).sl) : (G.ev f).nu = (G.ev l).nu + 1 := by
  obtain ⟨h1, h2⟩ := h.pr1 f hf l (by rw [hp]; exact List.mem_singleton.2 rfl)
  have hl : l < G.n := by omega
  have a1 : (G.ev l).nu < (G.ev f).nu := (Gr.nu_lt h hl hf hs.symm).2 h1
  rcases Nat.lt_or_ge ((G.ev l).nu + 1) (G.ev f).nu with c | c
  · have e1 := h.nu1 f hf
    obtain ⟨j, b1, b2, b3⟩ := Gr.at_ex h (s := (G.ev f).sl) (j := (G.ev l).nu + 1) (z := f) (by omega) (by rw [← e1]; exact c)
    have hjn : j < G.n := by omega
    have hb : G.bef j f = true := by rw [Gr.bef_same h hjn hf b2]; exact decide_eq_true b1
    obtain ⟨p, p1, p2⟩ := h.pr2 f hf j hjn hb
    rw [hp] at p1
    rw [List.mem_singleton.1 p1] at p2
    rcases p2 with e | e
    · rw [e] at b3; omega
    · rw [Gr.bef_same h hjn hl (b2.trans hs)] at e
      have := (Gr.nu_lt h hjn hl (b2.trans hs)).2 (of_decide_eq_true e)
      omega
  · omega
theorem pr16 {G : Gr} (h : G.ok) {f : Nat} (hf : f < G.n) : (G.ev f).pr.length ≤ 16 := by
  have h1 : ((G.ev f).pr.map (fun k => (G.ev k).sl)).Nodup := by
    rw [List.nodup_iff_pairwise_ne, List.pairwise_map]
    refine (h.pr4 f hf).imp_of_mem (fun {a b} ha hb hab e => ?_)
    have ha9 := (h.pr1 f hf a ha).1
    have hb9 := (h.pr1 f hf b hb).1
    rcases Nat.lt_trichotomy a b with q | q | q
    · have := h.pr3 f hf a b ha hb
      rw [Gr.bef_same h (by omega) (by omega) e, decide_eq_true q] at this
      cases this
    · subst q; exact absurd hab (Nat.lt_irrefl _)
    · have := h.pr3 f hf b a hb ha
      rw [Gr.bef_same h (by omega) (by omega) e.symm, decide_eq_true q] at this
      cases this
  have h2 := List.Nodup.length_le_of_subset h1 (l₂ := List.range G.m) (fun x hx => by
    obtain ⟨a, ha, rfl⟩ := List.mem_map.1 hx
    exact List.mem_range.2 (h.sl1 a (by have := (h.pr1 f hf a ha).1; omega)))
  rw [List.length_map, List.length_range] at h2
  have := h.hm
  omega
theorem MD.tpre {S : MM} {F : Nat → Nat × Nat} {t : Nat} {z : Nat → Nat} {Y : Nat → Nat → Nat} {R : Rb} {kz : Nat → Nat} (h : MD S F t z Y R kz) {p f : Nat} (hp : p < 4) (hf : f < (R.Q.G p).n) : Y p 0 = Y p 0 ∧ RG S F (101 + p) (Y p) (R.Q.G p) (R.Q.T p) ∧ StR S (Y p 8) (16 * f) ((R.Q.G p).ev f).pa ∧ (∀ s, ((R.Q.G p).ev f).pa s ≤ (R.Q.G p).cn s) ∧ isO S 17 (z 16) ∧ mN S (z 16) = 16 ∧ (F (z 16)).1 ≠ 101 + p ∧ ((R.Q.G p).ev f).pr.Pairwise (fun a b => (R.Q.G p).key a < (R.Q.G p).key b) ∧ ∀ k, k ∈ ((R.Q.G p).ev f).pr ↔ (R.Q.G p).Top ((R.Q.G p).ev f).pa k := by
  have g := (h 2 p hp).2.1
  have r16 := h 1 16 (by decide)
  have hnm := g.nm
  refine ⟨rfl, g, ⟨g.r8.2.1, by rw [g.r8.2.2]; omega, by rw [g.r8.2.2]; omega, fun s hs => ⟨(g 5 f hf).2.2.1 s hs, pa_le g.ok hf s⟩⟩, fun s => Nat.le_trans (g.ok.pa2 f s hf) (Gr.cnt_mono s (Nat.le_of_lt hf)), r16.2.2.1, r16.2.2.2, ?_, g.ok.pr4 f hf, fun k => (Gr.top_pr g.ok hf).symm⟩
  rw [r16.2.1]
  show 100 ≠ 101 + p
  omega
theorem RG.e9 {S : MM} {F : Nat → Nat × Nat} {i : Nat} {y : Nat → Nat} {G : Gr} {T : Tr} (h : RG S F i y G T) (ht : G.okt) {e : Nat} (he : e < G.n) : eI S (y 9) (nI e).toNatClampNeg = (if (G.ev e).ch = none then 0 else 1) ∧ eI S (y 10) (nI e).toNatClampNeg = nI (G.ev e).ix := by
  have hnm := h.nm
  rw [nI_clamp (by omega)]
  cases hc : (G.ev e).ch with
  | none =>
    have := ((ht e he).2 hc).1
    rw [if_pos rfl]
    exact ⟨((h 6 e he).2 hc (by omega)).1, (h 5 e he).2.2.2 (Or.inr (by omega))⟩
  | some c =>
    rw [if_neg (fun q => by cases q)]
    exact ⟨((h 6 e he).1 c hc).1, (h 5 e he).2.2.2 (Or.inl (by rw [hc]; exact fun q => by cases q))⟩
def knd (G : Gr) (l m kd : Nat) : Int32 := if (G.ev l).ch = none ∧ m = 1 then -1 else nI kd
/-- the kind of a span agrees with its last event -/
def kdOk (G : Gr) (l m kd : Nat) : Prop := ((G.ev l).ch ≠ none → kd = 0) ∧ ((G.ev l).ch = none → kd = 1 ∨ (kd = 2 ∧ m ≠ 1))
def T_rgo : TR := fun Rc Rs av S cs sl K _Kx => match av with
  | [.inr (.inr t_o), .inr (.inr g_o), .inl e0_v, .inl f_v, .inl kk] => pa t_o fun t => (pa g_o fun g => (∃ (e0 : Nat), e0_v = nI e0 ∧ (∃ (f : Nat), f_v = nI f ∧ (∃ (S0 : MM) (F : Nat → Nat × Nat) (z : Nat → Nat) (Y : Nat → Nat → Nat) (R : Rb) (kz : Nat → Nat) (V : Nat → List Int32) (M : List Nat) (ex : Int32) (p m kd : Nat), (wpS S0 S F t z Y R kz V M ex ∧ AbC R ∧ p < 4 ∧ g = Y p 0 ∧ e0 < (R.Q.G p).n ∧ f ≤ (R.Q.G p).n ∧ kk = knd (R.Q.G p) e0 m kd ∧ kdOk (R.Q.G p) e0 m kd) ∧ cs ≤ Rc ∧ sl ≤ Rs ∧ (∀ (S' : MM), (wpS S0 S' F t z Y R kz V M ex) → K (some (.inl (bI (decide (f < (R.Q.G p).n) && gsB (R.Q.G p) e0 m kd f)))) S' cs sl)))))
  | _ => False
def sp_rgo (t : Nat) (g : Nat) (e0 : Nat) (f : Nat) (kk : Int32) (S0 : MM) (F : Nat → Nat × Nat) (z : Nat → Nat) (Y : Nat → Nat → Nat) (R : Rb) (kz : Nat → Nat) (V : Nat → List Int32) (M : List Nat) (ex : Int32) (p m kd : Nat) : Sp := (fun av S => av = [.inr (.inr (some t)), .inr (.inr (some g)), .inl (nI e0), .inl (nI f), .inl kk] ∧ (wpS S0 S F t z Y R kz V M ex ∧ AbC R ∧ p < 4 ∧ g = Y p 0 ∧ e0 < (R.Q.G p).n ∧ f ≤ (R.Q.G p).n ∧ kk = knd (R.Q.G p) e0 m kd ∧ kdOk (R.Q.G p) e0 m kd), fun _ S => 0, fun _ S => 0, fun _ S rv S' => rv = (some (.inl (bI (decide (f < (R.Q.G p).n) && gsB (R.Q.G p) e0 m kd f)))) ∧ (wpS S0 S' F t z Y R kz V M ex), fun _ _ _ _ => False)
def tX14_goesOn : CD := [(0, .iload_n 3), (1, .aload_n 1), (2, .getfield 173), (5, .if_icmp .ge 50), (8, .aload_n 1), (9, .getfield 268), (12, .iload_n 3), (13, .iaload), (14, .aload_n 1), (15, .getfield 268), (18, .iload_n 2), (19, .iaload), (20, .if_icmp .ne 35), (23, .aload_n 1), (24, .getfield 271), (27, .iload_n 3), (28, .iaload), (29, .aload_n 1), (30, .getfield 271), (33, .iload_n 2), (34, .iaload), (35, .iconst 1), (36, .iadd), (37, .if_icmp .ne 18), (40, .aload_n 1), (41, .getfield 339), (44, .iload_n 3), (45, .baload), (46, .aload_n 1), (47, .getfield 339), (50, .iload_n 2), (51, .baload), (52, .if_icmp .eq 5), (55, .iconst 0), (56, .ireturn), (57, .aload_n 1), (58, .aload_n 1), (59, .getfield 342), (62, .bipush 16), (64, .iload_n 3), (65, .imul), (66, .aload_n 0), (67, .getfield 51), (70, .invokevirtual 278), (73, .iconst 1), (74, .if_icmp .ne 13), (77, .aload_n 0), (78, .getfield 51), (81, .iconst 0), (82, .iaload), (83, .iload_n 2), (84, .if_icmp .eq 5), (87, .iconst 0), (88, .ireturn), (89, .aload_n 1), (90, .getfield 345), (93, .iload_n 3), (94, .iaload), (95, .aload_n 1), (96, .getfield 345), (99, .iload_n 2), (100, .iaload), (101, .isub), (102, .istore 5), (104, .iload 4), (106, .ifCond .ne 17), (109, .iload 5), (111, .iconst 1), (112, .if_icmp .ne 7), (115, .iconst 1), (116, .goto 62), (119, .iconst 0), (120, .goto 58), (123, .iload 4), (125, .iconst 1), (126, .if_icmp .ne 16), (129, .iload 5), (131, .ifCond .ne 7), (134, .iconst 1), (135, .goto 43), (138, .iconst 0), (139, .goto 39), (142, .iload 4), (144, .iconst 2), (145, .if_icmp .ne 17), (148, .iload 5), (150, .iconst (-1)), (151, .if_icmp .ne 7), (154, .iconst 1), (155, .goto 23), (158, .iconst 0), (159, .goto 19), (162, .iload 5), (164, .ifCond .eq 9), (167, .iload 5), (169, .iconst (-1)), (170, .if_icmp .ne 7), (173, .iconst 1), (174, .goto 4), (177, .iconst 0), (178, .ireturn)]
set_option maxRecDepth 100000 in
theorem kX14_goesOn : chk cX14_goesOn tX14_goesOn = true := by decide +kernel
theorem vX14_goesOn_278 : ∀ w ∈ ([.methodLink RX14 278 yX12_tops, .instanceMethod yX12_tops, .selects yX12_tops.cls yX12_tops yX12_tops, .initialized yX12_tops.cls, .code yX12_tops cX12_tops 9 (some .int)] : List Cond), w ∈ lw_good := List.forall_mem_cons.mpr ⟨mgd 2142 (by decide +kernel) (by decide +kernel), List.forall_mem_cons.mpr ⟨mgd 2143 (by decide +kernel) (by decide +kernel), List.forall_mem_cons.mpr ⟨mgd 2144 (by decide +kernel) (by decide +kernel), List.forall_mem_cons.mpr ⟨mgd 138 (by decide +kernel) (by decide +kernel), List.forall_mem_cons.mpr ⟨mgd 2145 (by decide +kernel) (by decide +kernel), fun _ h => absurd h List.not_mem_nil⟩⟩⟩⟩⟩
set_option maxRecDepth 100000 in
set_option maxHeartbeats 2000000 in
theorem c_rgo (l : Launch) : ∀ (t : Nat) (g : Nat) (e0 : Nat) (f : Nat) (kk : Int32) (S0 : MM) (F : Nat → Nat × Nat) (z : Nat → Nat) (Y : Nat → Nat → Nat) (R : Rb) (kz : Nat → Nat) (V : Nat → List Int32) (M : List Nat) (ex : Int32) (p m kd : Nat), Ct l yX14_goesOn cX14_goesOn 6 (some .boolean) 2 51 (sp_rgo t g e0 f kk S0 F z Y R kz V M ex p m kd) := by
  intro t g e0 f kk S0 F z Y R kz V M ex p m kd
  refine Ct.of (fX14, nX14, aX14, iX14, lX14, [(278, 0, 4, 1, T_rtp)], qX14, gX14, []) false tX14_goesOn (fun _ _ _ => none) (by decide) (by decide) kX14_goesOn ⟨_, _, rfl⟩ fX14_ok nX14_ok aX14_ok iX14_ok lX14_ok (fun p e R s m args below meth c Q D cy z r A C hR1 hR2 => List.forall_mem_cons.mpr ⟨cOK_use (fun _ _ _ _ _ _ _ _ h => let ⟨sp, h1, h2, h3⟩ := u_rtp l _ _ _ _ _ _ _ _ h; ⟨sp, cOK_V C h1 vX14_goesOn_278 ⟨by decide, by decide, by decide +kernel⟩ ⟨by rw [hR1]; decide, by rw [hR2]; decide⟩ (k := 13) (T := TX12) (N := 27) rfl (by decide) h2, h3⟩), fun _ h => absurd h List.not_mem_nil⟩) qX14_ok gX14_ok rfl ?_ ?_
  · rintro _ S ⟨rfl, hp⟩
    refine ⟨Nat.le_of_ble_eq_true rfl, 300, ?_⟩
    show (isO S 13 g ∧ (((mI S 1300 g) ≤ (nI f) → (([] : List MV) = [] ∧ mret (some .boolean) (sp_rgo t g e0 f kk S0 F z Y R kz V M ex p m kd) [.inr (.inr (some t)), .inr (.inr (some g)), .inl (nI e0), .inl (nI f), .inl kk] S (some (.inl (0 : Int32))) S 0 0)) ∧ (¬ (mI S 1300 g) ≤ (nI f) → (isO S 13 g ∧ (pa (mR S 1306 g) fun a_1 => ∃ v_2 : Int32, (isO S 17 a_1 ∧ inR S a_1 (nI f) ∧ v_2 = eI S a_1 (nI f).toNatClampNeg ∨ a_1 = (mQ S).1 ∧ vp_in (nI f) 16 ∧ v_2 = mRem (nI f).toNatClampNeg) ∧ (isO S 13 g ∧ (pa (mR S 1306 g) fun a_3 => ∃ v_4 : Int32, (isO S 17 a_3 ∧ inR S a_3 (nI e0) ∧ v_4 = eI S a_3 (nI e0).toNatClampNeg ∨ a_3 = (mQ S).1 ∧ vp_in (nI e0) 16 ∧ v_4 = mRem (nI e0).toNatClampNeg) ∧ ((¬ v_2 = v_4 → (([] : List MV) = [] ∧ mret (some .boolean) (sp_rgo t g e0 f kk S0 F z Y R kz V M ex p m kd) [.inr (.inr (some t)), .inr (.inr (some g)), .inl (nI e0), .inl (nI f), .inl kk] S (some (.inl (0 : Int32))) S 0 0)) ∧ (v_2 = v_4 → (isO S 13 g ∧ (pa (mR S 1307 g) fun a_5 => ∃ v_6 : Int32, (isO S 17 a_5 ∧ inR S a_5 (nI f) ∧ v_6 = eI S a_5 (nI f).toNatClampNeg ∨ a_5 = (mQ S).1 ∧ vp_in (nI f) 16 ∧ v_6 = mRem (nI f).toNatClampNeg) ∧ (isO S 13 g ∧ (pa (mR S 1307 g) fun a_7 => ∃ v_8 : Int32, (isO S 17 a_7 ∧ inR S a_7 (nI e0) ∧ v_8 = eI S a_7 (nI e0).toNatClampNeg ∨ a_7 = (mQ S).1 ∧ vp_in (nI e0) 16 ∧ v_8 = mRem (nI e0).toNatClampNeg) ∧ ((¬ v_6 = (v_8 + (1 : Int32)) → (([] : List MV) = [] ∧ mret (some .boolean) (sp_rgo t g e0 f kk S0 F z Y R kz V M ex p m kd) [.inr (.inr (some t)), .inr (.inr (some g)), .inl (nI e0), .inl (nI f), .inl kk] S (some (.inl (0 : Int32))) S 0 0)) ∧ (v_6 = (v_8 + (1 : Int32)) → (isO S 13 g ∧ (pa (mR S 1309 g) fun a_9 => (isO S 16 a_9 ∨ isO S 20 a_9) ∧ inR S a_9 (nI f) ∧ (isO S 13 g ∧ (pa (mR S 1309 g) fun a_10 => (isO S 16 a_10 ∨ isO S 20 a_10) ∧ inR S a_10 (nI e0) ∧ (((eI S a_9 (nI f).toNatClampNeg) = (eI S a_10 (nI e0).toNatClampNeg) → (isO S 13 g ∧ (isO S 15 t ∧ (0 = 0 ∧ ((pa (mR S 1308 g) fun a_11 => ((pa (mR S 1516 t) fun a_12 => (∃ (o_13 : Nat), (16 : Int32) * (nI f) = nI o_13 ∧ (∃ (F_14 : Nat → Nat × Nat) (i_15 : Nat) (y_16 : Nat → Nat) (G_17 : Gr) (T_18 : Tr) (W_19 : Nat → Nat) (L_20 : List Nat), (g = y_16 0 ∧ RG S F_14 i_15 y_16 G_17 T_18 ∧ StR S a_11 o_13 W_19 ∧ (∀ s, W_19 s ≤ G_17.cn s) ∧ isO S 17 a_12 ∧ mN S a_12 = 16 ∧ (F_14 a_12).1 ≠ i_15 ∧ L_20.Pairwise (fun p q => G_17.key p < G_17.key q) ∧ (∀ k, k ∈ L_20 ↔ G_17.Top W_19 k)) ∧ 0 ≤ 0 ∧ 0 ≤ 0 ∧ (∀ (S_21 : MM), (tpQ S S_21 a_12 L_20) → ((¬ (nI L_20.length) = (1 : Int32) → (([] : List MV) = [] ∧ mret (some .boolean) (sp_rgo t g e0 f kk S0 F z Y R kz V M ex p m kd) [.inr (.inr (some t)), .inr (.inr (some g)), .inl (nI e0), .inl (nI f), .inl kk] S (some (.inl (0 : Int32))) S_21 0 0)) ∧ ((nI L_20.length) = (1 : Int32) → (isO S_21 15 t ∧ (pa (mR S_21 1516 t) fun a_22 => ∃ v_23 : Int32, (isO S_21 17 a_22 ∧ inR S_21 a_22 (0 : Int32) ∧ v_23 = eI S_21 a_22 (0 : Int32).toNatClampNeg ∨ a_22 = (mQ S_21).1 ∧ vp_in (0 : Int32) 16 ∧ v_23 = mRem (0 : Int32).toNatClampNeg) ∧ ((v_23 = (nI e0) → (isO S_21 13 g ∧ (pa (mR S_21 1310 g) fun a_24 => ∃ v_25 : Int32, (isO S_21 17 a_24 ∧ inR S_21 a_24 (nI f) ∧ v_25 = eI S_21 a_24 (nI f).toNatClampNeg ∨ a_24 = (mQ S_21).1 ∧ vp_in (nI f) 16 ∧ v_25 = mRem (nI f).toNatClampNeg) ∧ (isO S_21 13 g ∧ (pa (mR S_21 1310 g) fun a_26 => ∃ v_27 : Int32, (isO S_21 17 a_26 ∧ inR S_21 a_26 (nI e0) ∧ v_27 = eI S_21 a_26 (nI e0).toNatClampNeg ∨ a_26 = (mQ S_21).1 ∧ vp_in (nI e0) 16 ∧ v_27 = mRem (nI e0).toNatClampNeg) ∧ ((¬ kk = 0 → ((¬ kk = (1 : Int32) → ((¬ kk = (2 : Int32) → (((v_25 - v_27) = 0 → (([] : List MV) = [] ∧ mret (some .boolean) (sp_rgo t g e0 f kk S0 F z Y R kz V M ex p m kd) [.inr (.inr (some t)), .inr (.inr (some g)), .inl (nI e0), .inl (nI f), .inl kk] S (some (.inl (1 : Int32))) S_21 0 0)) ∧ (¬ (v_25 - v_27) = 0 → ((¬ (v_25 - v_27) = (-1 : Int32) → (([] : List MV) = [] ∧ mret (some .boolean) (sp_rgo t g e0 f kk S0 F z Y R kz V M ex p m kd) [.inr (.inr (some t)), .inr (.inr (some g)), .inl (nI e0), .inl (nI f), .inl kk] S (some (.inl (0 : Int32))) S_21 0 0)) ∧ ((v_25 - v_27) = (-1 : Int32) → (([] : List MV) = [] ∧ mret (some .boolean) (sp_rgo t g e0 f kk S0 F z Y R kz V M ex p m kd) [.inr (.inr (some t)), .inr (.inr (some g)), .inl (nI e0), .inl (nI f), .inl kk] S (some (.inl (1 : Int32))) S_21 0 0)))))) ∧ (kk = (2 : Int32) → ((¬ (v_25 - v_27) = (-1 : Int32) → (([] : List MV) = [] ∧ mret (some .boolean) (sp_rgo t g e0 f kk S0 F z Y R kz V M ex p m kd) [.inr (.inr (some t)), .inr (.inr (some g)), .inl (nI e0), .inl (nI f), .inl kk] S (some (.inl (0 : Int32))) S_21 0 0)) ∧ ((v_25 - v_27) = (-1 : Int32) → (([] : List MV) = [] ∧ mret (some .boolean) (sp_rgo t g e0 f kk S0 F z Y R kz V M ex p m kd) [.inr (.inr (some t)), .inr (.inr (some g)), .inl (nI e0), .inl (nI f), .inl kk] S (some (.inl (1 : Int32))) S_21 0 0)))))) ∧ (kk = (1 : Int32) → ((¬ (v_25 - v_27) = 0 → (([] : List MV) = [] ∧ mret (some .boolean) (sp_rgo t g e0 f kk S0 F z Y R kz V M ex p m kd) [.inr (.inr (some t)), .inr (.inr (some g)), .inl (nI e0), .inl (nI f), .inl kk] S (some (.inl (0 : Int32))) S_21 0 0)) ∧ ((v_25 - v_27) = 0 → (([] : List MV) = [] ∧ mret (some .boolean) (sp_rgo t g e0 f kk S0 F z Y R kz V M ex p m kd) [.inr (.inr (some t)), .inr (.inr (some g)), .inl (nI e0), .inl (nI f), .inl kk] S (some (.inl (1 : Int32))) S_21 0 0)))))) ∧ (kk = 0 → ((¬ (v_25 - v_27) = (1 : Int32) → (([] : List MV) = [] ∧ mret (some .boolean) (sp_rgo t g e0 f kk S0 F z Y R kz V M ex p m kd) [.inr (.inr (some t)), .inr (.inr (some g)), .inl (nI e0), .inl (nI f), .inl kk] S (some (.inl (0 : Int32))) S_21 0 0)) ∧ ((v_25 - v_27) = (1 : Int32) → (([] : List MV) = [] ∧ mret (some .boolean) (sp_rgo t g e0 f kk S0 F z Y R kz V M ex p m kd) [.inr (.inr (some t)), .inr (.inr (some g)), .inl (nI e0), .inl (nI f), .inl kk] S (some (.inl (1 : Int32))) S_21 0 0)))))))))) ∧ (¬ v_23 = (nI e0) → (([] : List MV) = [] ∧ mret (some .boolean) (sp_rgo t g e0 f kk S0 F z Y R kz V M ex p m kd) [.inr (.inr (some t)), .inr (.inr (some g)), .inl (nI e0), .inl (nI f), .inl kk] S (some (.inl (0 : Int32))) S_21 0 0)))))))))))))))))) ∧ (¬ (eI S a_9 (nI f).toNatClampNeg) = (eI S a_10 (nI e0).toNatClampNeg) → (([] : List MV) = [] ∧ mret (some .boolean) (sp_rgo t g e0 f kk S0 F z Y R kz V M ex p m kd) [.inr (.inr (some t)), .inr (.inr (some g)), .inl (nI e0), .inl (nI f), .inl kk] S (some (.inl (0 : Int32))) S 0 0))))))))))))))))))))))
    obtain ⟨hW, hA, hp4, rfl, hl, hf, hkk, hkd⟩ := hp
    have hM := hW.1
    have g := (hM 2 p hp4).2.1
    have hGT := (hA p hp4).1
    have hnm := g.nm
    have r16 := hM 1 16 (by decide)
    have m0 : mI S 1300 (Y p 0) = nI (R.Q.G p).n := (g 2).1
    have fin0 : ∀ S1, wpS S0 S1 F t z Y R kz V M ex → (decide (f < (R.Q.G p).n) && gsB (R.Q.G p) e0 m kd f) = false → (([] : List MV) = [] ∧ mret (some .boolean) (sp_rgo t (Y p 0) e0 f kk S0 F z Y R kz V M ex p m kd) [.inr (.inr (some t)), .inr (.inr (some (Y p 0))), .inl (nI e0), .inl (nI f), .inl kk] S (some (.inl (0 : Int32))) S1 0 0) := fun S1 h e => ⟨rfl, rt0, ⟨by rw [e]; rfl, h⟩, Nat.le_refl _, Nat.le_refl _⟩
    have fin1 : ∀ S1, wpS S0 S1 F t z Y R kz V M ex → (decide (f < (R.Q.G p).n) && gsB (R.Q.G p) e0 m kd f) = true → (([] : List MV) = [] ∧ mret (some .boolean) (sp_rgo t (Y p 0) e0 f kk S0 F z Y R kz V M ex p m kd) [.inr (.inr (some t)), .inr (.inr (some (Y p 0))), .inl (nI e0), .inl (nI f), .inl kk] S (some (.inl (1 : Int32))) S1 0 0) := fun S1 h e => ⟨rfl, rt1, ⟨by rw [e]; rfl, h⟩, Nat.le_refl _, Nat.le_refl _⟩
    rw [m0]
    by_cases w : f < (R.Q.G p).n
    · have hdf : decide (f < (R.Q.G p).n) = true := decide_eq_true w
      have ndf : ¬ gsOn (R.Q.G p) e0 m kd f → (decide (f < (R.Q.G p).n) && gsB (R.Q.G p) e0 m kd f) = false := fun q => by
        rw [hdf, Bool.true_and]
        exact Bool.eq_false_iff.2 (fun e => q (gsB_on.1 e))
      have ydf : gsOn (R.Q.G p) e0 m kd f → (decide (f < (R.Q.G p).n) && gsB (R.Q.G p) e0 m kd f) = true := fun q => by
        rw [hdf, Bool.true_and]
        exact gsB_on.2 q
      have s1 := g.ok.sl1 f w
      have s2 := g.ok.sl1 e0 hl
      have u1 := nu_le g.ok w
      have u2 := nu_le g.ok hl
      have i1 := hGT.2.2.2.2.2 f w
      have i2 := hGT.2.2.2.2.2 e0 hl
      have prE : ((R.Q.G p).ev f).pr.length = 1 → ((R.Q.G p).ev f).pr = [((R.Q.G p).ev f).pr.getD 0 0] := fun q => by
        match h : ((R.Q.G p).ev f).pr, q with
        | [a], _ => rfl
      obtain ⟨ef, xf⟩ := g.e9 hGT.2.1 w
      obtain ⟨el, xl⟩ := g.e9 hGT.2.1 hl
      refine ⟨(g 0).1, if_le (by omega) (by omega) (fun q => absurd w (by omega)) (fun _ => ⟨(g 0).1, g.g6 w ⟨(g 0).1, g.g6 hl (if_ne (by omega) (by omega) (fun q => fin0 S hW (ndf (fun e => q e.2.2.1))) (fun qs => ⟨(g 0).1, g.g7 w ⟨(g 0).1, g.g7 hl ⟨fun q => fin0 S hW (ndf (fun e => q ?_)), fun qn => ⟨(g 0).1, pa_i g.r9.1 ⟨Or.inr g.r9.2.1, inRn g.r9.2.2 (by omega) (by decide), (g 0).1, pa_i g.r9.1 ⟨Or.inr g.r9.2.1, inRn g.r9.2.2 (by omega) (by decide), ?_⟩⟩⟩⟩⟩⟩))⟩⟩)⟩
      · have e1 : ((R.Q.G p).ev f).pr = [e0] := by rw [prE e.1, e.2.1]
        rw [nI_1, nu_next g.ok w e1 e.2.2.1]
      · rw [ef, el]
        refine ⟨fun qi => ⟨(g 0).1, (hM 0).1, rfl, pa_i g.r8.1 (pa_i r16.1 ⟨16 * f, nI_mul16, F, 101 + p, Y p, R.Q.G p, R.Q.T p, _, _, hM.tpre hp4 w, Nat.le_refl _, Nat.le_refl _, fun S21 hT => ?_⟩)⟩, fun qi => fin0 S hW (ndf (fun e => qi ?_))⟩
        · obtain ⟨fn, rfl, hfn⟩ := hT
          have hW2 := hW.tps fn
          have hM2 := hW2.1
          have g2 := (hM2 2 p hp4).2.1
          obtain ⟨-, xf2⟩ := g2.e9 hGT.2.1 w
          obtain ⟨-, xl2⟩ := g2.e9 hGT.2.1 hl
          have hi : ((R.Q.G p).ev f).ch = none ↔ ((R.Q.G p).ev e0).ch = none := by
            by_cases a1 : ((R.Q.G p).ev f).ch = none <;> by_cases a2 : ((R.Q.G p).ev e0).ch = none
            · exact ⟨fun _ => a2, fun _ => a1⟩
            · rw [if_pos a1, if_neg a2] at qi; exact absurd qi (by decide)
            · rw [if_neg a1, if_pos a2] at qi; exact absurd qi (by decide)
            · exact ⟨fun q => absurd q a1, fun q => absurd q a2⟩
          have p16 := pr16 g.ok w
          refine if_ne (a := ((R.Q.G p).ev f).pr.length) (b := 1) (by omega) (by decide) (fun q => fin0 _ hW2 (ndf (fun e => q e.1))) (fun q1 => ⟨(hM2 0).1, rdI (v := nI (((R.Q.G p).ev f).pr.getD 0 0)) (hM2 1 16 (by decide)).1 r16.2.2.1 (show inR _ _ (nI 0) from inRn (N := 16) r16.2.2.2 (by decide) (by decide)) ?_ ?_⟩)
          · rw [eI_rI, if_pos rfl]
            exact hfn 0 (by omega)
          · have hpm : ((R.Q.G p).ev f).pr.getD 0 0 < (R.Q.G p).n := by
              have := g.ok.pr1 f w (((R.Q.G p).ev f).pr.getD 0 0) (by rw [prE q1]; exact List.mem_singleton.2 rfl)
              omega
            refine if_eq (by omega) (by omega) (fun q2 => ⟨(g2 0).1, rdI (v := nI ((R.Q.G p).ev f).ix) g2.r10.1 g2.r10.2.1 (inRn g2.r10.2.2 (by omega) (by decide)) xf2 ⟨(g2 0).1, rdI (v := nI ((R.Q.G p).ev e0).ix) g2.r10.1 g2.r10.2.1 (inRn g2.r10.2.2 (by omega) (by decide)) xl2 ?_⟩⟩) (fun q2 => fin0 _ hW2 (ndf (fun e => q2 e.2.1)))
            have gs : gsOn (R.Q.G p) e0 m kd f ↔ ((((R.Q.G p).ev f).ch ≠ none ∧ ((R.Q.G p).ev f).ix = ((R.Q.G p).ev e0).ix + 1) ∨ (((R.Q.G p).ev f).ch = none ∧ (((R.Q.G p).ev f).ix = ((R.Q.G p).ev e0).ix ∧ kd = 1 ∨ ((R.Q.G p).ev f).ix + 1 = ((R.Q.G p).ev e0).ix ∧ (m = 1 ∨ kd = 2)))) := ⟨fun e => e.2.2.2.2, fun e => ⟨q1, q2, qs, hi, e⟩⟩
            have d1 := sub_1 (a := ((R.Q.G p).ev f).ix) (b := ((R.Q.G p).ev e0).ix) (by omega) (by omega)
            have d0 := sub_0 (a := ((R.Q.G p).ev f).ix) (b := ((R.Q.G p).ev e0).ix) (by omega) (by omega)
            have dm := sub_m (a := ((R.Q.G p).ev f).ix) (b := ((R.Q.G p).ev e0).ix) (by omega) (by omega)
            by_cases hc : ((R.Q.G p).ev e0).ch = none
            · have hcf := hi.2 hc
              by_cases hm1 : m = 1
              · have ek : kk = -1 := by rw [hkk, knd, if_pos ⟨hc, hm1⟩]
                have hk1 : kd = 1 := by rcases hkd.2 hc with e | e <;> omega
                rw [ek]
                refine ⟨fun _ => ⟨fun _ => ⟨fun _ => ⟨fun a => fin1 _ hW2 (ydf (gs.2 (Or.inr ⟨hcf, Or.inl ⟨d0.1 a, hk1⟩⟩))), fun a => ⟨fun b => fin0 _ hW2 (ndf (fun e => ?_)), fun b => fin1 _ hW2 (ydf (gs.2 (Or.inr ⟨hcf, Or.inr ⟨dm.1 b, Or.inl hm1⟩⟩)))⟩⟩, fun q => absurd q (by decide)⟩, fun q => absurd q (by decide)⟩, fun q => absurd q (by decide)⟩
                rcases gs.1 e with e | e
                · exact e.1 hcf
                · rcases e.2 with e | e
                  · exact a (d0.2 e.1)
                  · exact b (dm.2 e.1)
              · have ek : kk = nI kd := by rw [hkk, knd, if_neg (fun q => hm1 q.2)]
                rw [ek]
                rcases hkd.2 hc with e1 | ⟨e1, -⟩
                · subst e1
                  refine ⟨fun _ => ⟨fun q => absurd rfl q, fun _ => ⟨fun a => fin0 _ hW2 (ndf (fun e => ?_)), fun a => fin1 _ hW2 (ydf (gs.2 (Or.inr ⟨hcf, Or.inl ⟨d0.1 a, rfl⟩⟩)))⟩⟩, fun q => absurd q (by decide)⟩
                  rcases gs.1 e with e | e
                  · exact e.1 hcf
                  · rcases e.2 with e | e
                    · exact a (d0.2 e.1)
                    · omega
                · subst e1
                  refine ⟨fun _ => ⟨fun _ => ⟨fun q => absurd rfl q, fun _ => ⟨fun a => fin0 _ hW2 (ndf (fun e => ?_)), fun a => fin1 _ hW2 (ydf (gs.2 (Or.inr ⟨hcf, Or.inr ⟨dm.1 a, Or.inr rfl⟩⟩)))⟩⟩, fun q => absurd q (by decide)⟩, fun q => absurd q (by decide)⟩
                  rcases gs.1 e with e | e
                  · exact e.1 hcf
                  · rcases e.2 with e | e
                    · omega
                    · exact a (dm.2 e.1)
            · have ek : kk = 0 := by rw [hkk, knd, if_neg (fun q => hc q.1), hkd.1 hc]; rfl
              have hcf : ((R.Q.G p).ev f).ch ≠ none := fun q => hc (hi.1 q)
              rw [ek]
              refine ⟨fun q => absurd rfl q, fun _ => ⟨fun a => fin0 _ hW2 (ndf (fun e => ?_)), fun a => fin1 _ hW2 (ydf (gs.2 (Or.inl ⟨hcf, d1.1 a⟩)))⟩⟩
              rcases gs.1 e with e | e
              · exact a (d1.2 e.2)
              · exact hcf e.1
        · by_cases a1 : ((R.Q.G p).ev f).ch = none
          · rw [if_pos a1, if_pos (e.2.2.2.1.1 a1)]
          · rw [if_neg a1, if_neg (fun a2 => a1 (e.2.2.2.1.2 a2))]
    · refine ⟨(g 0).1, if_le (by omega) (by omega) (fun q => fin0 S hW ?_) (fun q => absurd q w)⟩
      rw [decide_eq_false w]; rfl
  · exact fun _ _ _ _ _ h => by cases h
theorem u_rgo (l : Launch) : Us l yX14_goesOn cX14_goesOn 6 (some .boolean) 2 51 15 T_rgo := by
  intro Rc Rs av S cs sl K Kx h
  unfold T_rgo at h
  split at h
  · rename_i t_o g_o e0_v f_v kk
    obtain ⟨t, rfl, h_1⟩ := pa_of h
    obtain ⟨g, rfl, h_2⟩ := pa_of h_1
    obtain ⟨e0, rfl, h_3⟩ := h_2
    obtain ⟨f, rfl, h_4⟩ := h_3
    obtain ⟨S0, F, z, Y, R, kz, V, M, ex, p, m, kd, hp, hc, hs, hk⟩ := h_4
    refine ⟨(sp_rgo t g e0 f kk S0 F z Y R kz V M ex p m kd), c_rgo l t g e0 f kk S0 F z Y R kz V M ex p m kd, fun _ _ h9 => ⟨_, _, h9.1, (h9.2.1.1 0).1⟩, ⟨rfl, hp⟩, hc, hs, fun v9 S' h8 => by
      obtain ⟨h7, h8⟩ := h8
      cases h7
      exact hk _ h8, fun _ _ q => q.elim⟩
  · exact h.elim
