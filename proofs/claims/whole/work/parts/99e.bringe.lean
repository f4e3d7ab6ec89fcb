/-! ===== PatchReader.bringEvent: its walk ===== -/
/-- what bringing events has at hand: the packer's raw text TX, read up to tp -/
def BrR (S : MM) (F : Nat → Nat × Nat) (j r pk : Nat) (cu : Nat → Nat) (ids fnd i : Nat) (A : Nat → Nat) (X : GX) (G : Gr) (T : Tr) (H : List Nat) (W : Nat → Nat) (m d : Nat) (B L : List Nat) (s : SpT) (la : Option Nat) (q p' rw dr : Nat) (TX : List Nat) (tp : Nat) : Prop := skR S F j r pk cu ids fnd i A X G T H W m d B L s la q p' ∧ isO S 8 pk ∧ mR S 800 pk = some rw ∧ By S rw dr TX ∧ mI S 911 r = nI tp ∧ tp ≤ 100000 ∧ (∀ b, b = pk ∨ b = rw ∨ b = dr ∨ b = m ∨ b = d → (F b).1 ≠ j ∧ (F b).1 ≠ i)
/-- the other cursors and what is expected stay -/
def bk2 (S S' : MM) (r m : Nat) (cu : Nat → Nat) : Prop := (∀ a p q, a = 2 ∨ a = 4 → Cu S (cu a) m p q → Cu S' (cu a) m p q) ∧ mJ S' 919 r = mJ S 919 r
theorem bk2.tr {S S1 S2 : MM} {r m : Nat} {cu : Nat → Nat} (h : bk2 S S1 r m cu) (g : bk2 S1 S2 r m cu) : bk2 S S2 r m cu := ⟨fun a p q ha hc => g.1 a p q ha (h.1 a p q ha hc), g.2.trans h.2⟩
section BRS
variable {S S1 : MM} {F : Nat → Nat × Nat} {j r pk ids fnd i m d q p' rw dr tp : Nat} {cu : Nat → Nat} {A : Nat → Nat} {X : GX} {G : Gr} {T : Tr} {H : List Nat} {W : Nat → Nat} {B L TX : List Nat} {s : SpT} {la : Option Nat}
theorem BrR.kp (h : BrR S F j r pk cu ids fnd i A X G T H W m d B L s la q p' rw dr TX tp) (x1 : RW (SkW cu fnd) [910, 911] r S S1) : RD S1 F j r pk cu ids fnd ∧ GI S1 F i A X G T H W ∧ By S1 m d B ∧ SpM S1 r s ∧ mI S1 909 r = nI L.length ∧ (∀ k, k < L.length → eI S1 ids k = nI (L.getD k 0)) ∧ isO S1 8 pk ∧ mR S1 800 pk = some rw ∧ By S1 rw dr TX ∧ FO S1 F := by
  obtain ⟨⟨hR, hG, hF, hi, hij, hB, hs, hc, h9, hl, hA, hids, h10, hla, hC, hq, hP⟩, b1, b2, b3, b4, b5, b6⟩ := h
  have no : ∀ b, (F b).1 ≠ j → ¬ (b = r ∨ SkW cu fnd b) := fun b hb z => hb (SkW.own hR z)
  refine ⟨x1.rd hR (by decide), hG.keep x1.1 (fun b hb z => hij (hb.symm.trans (SkW.own hR z))) hF hi (fun _ _ => rfl), hB.keep x1.1 (no m (b6 m (by simp)).1) (no d (b6 d (by simp)).1), ?_, (x1.2.1 909 (by decide)).trans h9, fun k hk => ?_, x1.1.isO b1, ((x1.1.2.1 pk b1.1 (no pk (b6 pk (by simp)).1)).2.1 800).trans b2, b3.keep x1.1 (no rw (b6 rw (by simp)).1) (no dr (b6 dr (by simp)).1), fun b hb => (x1.1.1 b (hF b hb)).1⟩
  · obtain ⟨s1, s2, s3, s4, s5, s6, s7⟩ := hs
    exact ⟨(x1.2.1 _ (by decide)).trans s1, (x1.2.1 _ (by decide)).trans s2, (x1.2.1 _ (by decide)).trans s3, (x1.2.1 _ (by decide)).trans s4, (x1.2.1 _ (by decide)).trans s5, (x1.2.1 _ (by decide)).trans s6, (x1.2.2.2 _ (by decide)).trans s7⟩
  · have f := hR.2.2.2.2.2.1
    rw [(x1.1.2.1 ids f.1 (fun z => z.elim (fun e => isO_ne f hR.1 (by decide) e) (fun z => z.elim (fun e => isO_ne f hC.1 (by decide) e) (fun e => isO_ne f hR.2.2.2.2.2.2.2.2.2.1 (by decide) e)))).2.2.2.1]
    exact hids k hk
/-- the reader goes on: another last event, another place in the text -/
theorem BrR.go (h : BrR S F j r pk cu ids fnd i A X G T H W m d B L s la q p' rw dr TX tp) (x1 : RW (SkW cu fnd) [910, 911] r S S1) {la' : Option Nat} {tp' : Nat} (h1 : mR S1 910 r = la'.map X.ad) (h2 : ∀ e, la' = some e → e < G.n) (h3 : mI S1 911 r = nI tp') (h4 : tp' ≤ 100000) (h5 : Cu S1 (cu 3) m p' q) : BrR S1 F j r pk cu ids fnd i A X G T H W m d B L s la' q p' rw dr TX tp' := by
  obtain ⟨c1, c2, c3, c4, c5, c6, c7, c8, c9, c10⟩ := h.kp x1
  obtain ⟨⟨hR, hG, hF, hi, hij, hB, hs, hc, h9, hl, hA, hids, h10, hla, hC, hq, hP⟩, b1, b2, b3, b4, b5, b6⟩ := h
  exact ⟨⟨c1, c2, c10, hi, hij, c3, c4, hc, c5, hl, hA, c6, h1, h2, h5, hq, hP⟩, c7, c8, c9, h3, h4, b6⟩
/-- the graph goes on -/
theorem BrR.gi (h : BrR S F j r pk cu ids fnd i A X G T H W m d B L s la q p' rw dr TX tp) (hk : Keep (fun b => (F b).1 = i) S S1) {F' : Nat → Nat × Nat} {A' : Nat → Nat} {X' : GX} {G' : Gr} {T' : Tr} {H' : List Nat} {W' : Nat → Nat} (hG' : GI S1 F' i A' X' G' T' H' W') (hF' : FO S1 F') (hf : ∀ b, b ∈ mL S → F' b = F b) (hn : G.n ≤ G'.n) (hX : ∀ k, k < G.n → X'.ad k = X.ad k) : BrR S1 F' j r pk cu ids fnd i A' X' G' T' H' W' m d B L s la q p' rw dr TX tp := by
  obtain ⟨⟨hR, hG, hF, hi, hij, hB, hs, hc, h9, hl, hA, hids, h10, hla, hC, hq, hP⟩, b1, b2, b3, b4, b5, b6⟩ := h
  have oj : ∀ b, (F b).1 = j → ¬ (F b).1 = i := fun b e z => hij (z.symm.trans e)
  have kr := hk.2.1 r hR.1.1 (oj r (hR.own (Or.inl rfl)))
  have kc := fun a (ha : a < 6) => oj (cu a) (hR.own (Or.inr (Or.inr (Or.inr ⟨a, ha, rfl⟩))))
  have hR1 : RD S1 F j r pk cu ids fnd := hR.keep hk (fun q _ => kr.2.1 q)
  have hR2 : RD S1 F' j r pk cu ids fnd := by
    obtain ⟨r1, r2, r3, r4, r5, r6, r7, r8, r9, r10, r11, r12, r13⟩ := hR1
    exact ⟨r1, (hf r hR.1.1).trans r2, r3, fun k hk9 => ⟨(r4 k hk9).1, (r4 k hk9).2.1, (hf _ (hR.2.2.2.1 k hk9).2.1.1).trans (r4 k hk9).2.2⟩, r5, r6, r7, (hf _ hR.2.2.2.2.2.1.1).trans r8, r9, r10, r11, (hf _ hR.2.2.2.2.2.2.2.2.2.1.1).trans r12, r13⟩
  have md : ∀ b, b = pk ∨ b = rw ∨ b = dr ∨ b = m ∨ b = d → b ∈ mL S := fun b hb => by
    rcases hb with e | e | e | e | e
    · rw [e]; exact b1.1
    · rw [e]; exact b3.1.1
    · rw [e]; exact b3.2.2.1.1
    · rw [e]; exact hB.1.1
    · rw [e]; exact hB.2.2.1.1
  obtain ⟨s1, s2, s3, s4, s5, s6, s7⟩ := hs
  refine ⟨⟨hR2, hG', hF', hi, hij, hB.keep hk (b6 m (by simp)).2 (b6 d (by simp)).2, ⟨(kr.1 _).trans s1, (kr.1 _).trans s2, (kr.1 _).trans s3, (kr.1 _).trans s4, (kr.1 _).trans s5, (kr.1 _).trans s6, (kr.2.2.1 _).trans s7⟩, hc, (kr.1 _).trans h9, hl, hA, fun k hk9 => ?_, ?_, fun e he => Nat.lt_of_lt_of_le (hla e he) hn, hC.keep hk (kc 3 (by decide)), hq, hP⟩, hk.isO b1, ((hk.2.1 pk b1.1 (b6 pk (by simp)).2).2.1 _).trans b2, b3.keep hk (b6 rw (by simp)).2 (b6 dr (by simp)).2, (kr.1 _).trans b4, b5, fun b hb => by rw [hf b (md b hb)]; exact b6 b hb⟩
  · rw [(hk.2.1 ids hR.2.2.2.2.2.1.1 (oj ids (hR.own (Or.inr (Or.inl rfl))))).2.2.2.1]
    exact hids k hk9
  · rw [kr.2.1, h10]
    cases e : la with
    | none => rfl
    | some k => show some (X.ad k) = some (X'.ad k); rw [hX k (hla k e)]
theorem bk2.w (hR : RD S F j r pk cu ids fnd) (x1 : RW (SkW cu fnd) [910, 911] r S S1) : bk2 S S1 r m cu := ⟨fun a p q ha hc => x1.cuk hR (a := a) (by omega) (fun z => z.elim (fun e => hR.cne (a := a) (b := 3) (by omega) (by decide) (by omega) e) (fun e => isO_ne hc.1 hR.2.2.2.2.2.2.2.2.2.1 (by decide) e)) hc, x1.2.2.2 919 (by decide)⟩
theorem bk2.gi (hR : RD S F j r pk cu ids fnd) (hij : i ≠ j) (hk : Keep (fun b => (F b).1 = i) S S1) : bk2 S S1 r m cu := ⟨fun a p q ha hc => hc.keep hk (fun z => hij (z.symm.trans (hR.own (Or.inr (Or.inr (Or.inr ⟨a, by omega, rfl⟩)))))), (hk.2.1 r hR.1.1 (fun z => hij (z.symm.trans (hR.own (Or.inl rfl))))).2.2.1 919⟩
end BRS
section BEL
variable {G : Gr} {L : List Nat}
theorem lZ_N {a : Int} (h : 0 ≤ a) : lZ a = lN a.toNat := by
  unfold lZ lN
  rw [← Int64.ofInt_eq_ofNat, Int.toNat_of_nonneg h]
theorem lZ_ng {n : Nat} (h : n < 2147483648) : (-nI n).toInt64 = lZ (-(n : Int)) := by
  rw [show -nI n = Int32.ofInt (-(n : Int)) from by rw [Int32.ofInt_neg, Int32.ofInt_eq_ofNat]; rfl]
  exact Int32.toInt64_ofInt (by show (-2147483648 : Int) ≤ _; omega) (by show _ ≤ (2147483647 : Int); omega)
theorem lN_32 {n : Nat} (h : n < 2147483648) : (lN n).toInt32 = nI n := by
  rw [← Int32.ofInt_int64ToInt, show (lN n).toInt = (n : Int) from by rw [show lN n = lZ n from by unfold lN lZ; rw [Int64.ofInt_eq_ofNat]]; exact lZ_int (by omega) (by omega), Int32.ofInt_eq_ofNat]; rfl
theorem skF_all : ∀ {P : List (Nat × Nat)} {Q : List Nat}, skF G L P = some Q → Q.length = P.length ∧ ∀ e, e ∈ Q → e < G.n
  | [], Q, h => by
    rw [skF] at h
    injection h with h
    subst h
    exact ⟨rfl, fun e he => by cases he⟩
  | x :: T, Q, h => by
    rw [skF] at h
    cases hl : lkE G (L.getD x.1 0) x.2 with
    | none => rw [hl] at h; cases h
    | some e =>
      rw [hl] at h
      cases hs : skF G L T with
      | none => rw [hs] at h; cases h
      | some Q2 =>
        rw [hs] at h
        obtain ⟨a1, a2⟩ := skF_all hs
        have h : some (e :: Q2) = some Q := h
        injection h with h
        subst h
        refine ⟨by rw [List.length_cons, List.length_cons, a1], fun e' he' => ?_⟩
        rcases List.mem_cons.mp he' with z | z
        · rw [z]; exact lkE_lt hl
        · exact a2 e' z
theorem StpE.cnt1 {G' : Gr} {T T' : Tr} {a : Nat} {P : List Nat} {oc : Option Nat} {ix s : Nat} (h : StpE G T a P oc ix s G' T') : G'.n = G.n + 1 := by
  obtain ⟨e, -, -, -, -, -, -, -, e1, -⟩ := h
  rw [e1]
  show (eGr G s a).n + 1 = G.n + 1
  unfold eGr
  split <;> rfl
end BEL
section BEK
variable {S : MM} {F : Nat → Nat × Nat} {j r pk ids fnd i m d q p' : Nat} {cu : Nat → Nat} {A : Nat → Nat} {X : GX} {G : Gr} {T : Tr} {H : List Nat} {W : Nat → Nat} {B L : List Nat} {s : SpT} {la : Option Nat}
theorem skV_all (h : skR S F j r pk cu ids fnd i A X G T H W m d B L s la q p') {k : Nat} {Q : List Nat} (hv : skV G L la s k = some Q) : Q.length < 2147483648 ∧ ∀ e, e ∈ Q → e < G.n := by
  obtain ⟨hR, hG, hF, hi, hij, hB, hs, hc, h9, hl, hA, hids, h10, hla, hC, hq, hP⟩ := h
  unfold skV at hv
  by_cases z : 0 < k ∨ s.2.2.2.1 = 0
  · rw [if_pos z] at hv
    cases e : la with
    | none => rw [e] at hv; cases hv
    | some e1 =>
      rw [e] at hv
      have hv : some [e1] = some Q := hv
      injection hv with hv
      subst hv
      exact ⟨(by decide : 1 < 2147483648), fun e' he' => by rw [List.mem_singleton.mp he']; exact hla e1 e⟩
  · rw [if_neg z] at hv
    obtain ⟨a1, a2⟩ := skF_all hv
    obtain ⟨R, b1, b2⟩ := prR_pre (hP (fun e => z (Or.inr e)))
    refine ⟨?_, a2⟩
    rw [a1, b1, List.nil_append, b2]
    omega
end BEK
def thI (s : SpT) (k : Nat) : Int := s.2.2.2.2.2.2.2 + (if s.2.2.2.2.2.2.1 = 0 then (k : Int) else if s.2.2.2.2.2.2.1 = 1 then 0 else -(k : Int))
/-- the parents of an event that isn't known, if they and the event before are -/
def beO (G : Gr) (L : List Nat) (la : Option Nat) (s : SpT) (k : Nat) : Option (List Nat) := if (agE G s.1).length < s.2.1 + k then none else skV G L la s k
/-- an event is brought: the graph, the last event, the fault -/
def beS (G : Gr) (T : Tr) (L : List Nat) (la : Option Nat) (s : SpT) (k : Nat) (oc : Option Nat) (G' : Gr) (T' : Tr) (la' : Option Nat) (f : Nat) : Prop :=
  (∃ e, lkE G s.1 (s.2.1 + k) = some e ∧ G' = G ∧ T' = T ∧ la' = some e ∧ f = 0) ∨
  (lkE G s.1 (s.2.1 + k) = none ∧ ((beO G L la s k = none ∧ f = 5 ∧ G' = G ∧ T' = T) ∨
    ∃ Q, beO G L la s k = some Q ∧ ((16 < Q.length ∧ f = 6 ∧ G' = G ∧ T' = T) ∨
      (Q.length ≤ 16 ∧ f = fltV G s.1 (s.2.1 + k) (thI s k).toNat Q (oc ≠ none) ∧ ((f ≠ 0 ∧ G' = G ∧ T' = T) ∨ (f = 0 ∧ StpE G T s.1 Q oc (thI s k).toNat (slt G s.1) G' T' ∧ la' = some G.n))))))
/-- an event is entered -/
def beN (G : Gr) (L : List Nat) (la : Option Nat) (s : SpT) (k : Nat) (oc : Option Nat) : Prop := lkE G s.1 (s.2.1 + k) = none ∧ ∃ Q, beO G L la s k = some Q ∧ Q.length ≤ 16 ∧ fltV G s.1 (s.2.1 + k) (thI s k).toNat Q (oc ≠ none) = 0
noncomputable def nc_bC (G : Gr) (L : List Nat) (la : Option Nat) (s : SpT) (k : Nat) (oc : Option Nat) : Nat := ift (beN G L la s k oc) (enC G (slt G s.1)) 0
noncomputable def nc_bZ (G : Gr) (L : List Nat) (la : Option Nat) (s : SpT) (k : Nat) (oc : Option Nat) : Nat := ift (beN G L la s k oc) (enZ G (slt G s.1)) 0
def beT (s : SpT) (TX : List Nat) (tp : Nat) : Nat := if s.2.2.2.2.2.2.1 = 0 then tp + wN (symAt TX tp) else tp
def beQ (S S' : MM) (F : Nat → Nat × Nat) (j r pk : Nat) (cu : Nat → Nat) (ids fnd i : Nat) (A : Nat → Nat) (X : GX) (G : Gr) (T : Tr) (m d : Nat) (B L : List Nat) (s : SpT) (la : Option Nat) (q p' rw dr : Nat) (TX : List Nat) (tp k : Nat) (oc : Option Nat) (v : Int32) : Prop := ∃ F' A' X' G' T' H' W' la' f, v = nI f ∧ f < 8 ∧ beS G T L la s k oc G' T' la' f ∧ GI S' F' i A' X' G' T' H' W' ∧ FO S' F' ∧ RD S' F' j r pk cu ids fnd ∧ (∀ b, b ∈ mL S → F' b = F b) ∧ Keep (fun b => (F b).1 = i ∨ (F b).1 = j) S S' ∧ bk2 S S' r m cu ∧ (∀ c, c < 20 → c ≠ 3 → c ≠ 6 → c ≠ 7 → A' c = A c) ∧ (∀ c, c < G.n → X'.ad c = X.ad c) ∧ (f = 0 → BrR S' F' j r pk cu ids fnd i A' X' G' T' H' W' m d B L s la' q p' rw dr TX (beT s TX tp))
def beP (s : SpT) (k : Nat) (oc : Option Nat) (TX : List Nat) (tp : Nat) : Prop := s.1 < 256 ∧ s.2.1 + k < 2147483648 ∧ k < 2147483648 ∧ s.2.2.2.2.2.2.1 < 3 ∧ 0 ≤ thI s k ∧ thI s k < 4611686018427387904 ∧ tp ≤ 50000 ∧ ((s.2.2.2.2.2.2.1 = 0 ∧ ∃ c, oc = some c ∧ c < 2000000 ∧ symAt TX tp = nI c) ∨ (s.2.2.2.2.2.2.1 ≠ 0 ∧ oc = none))
def beX (S S1 : MM) (r : Nat) (cu : Nat → Nat) (fnd m q p' : Nat) (X : GX) (s : SpT) (TX : List Nat) (tp : Nat) (o : Option (List Nat)) : Prop := RW (SkW cu fnd) [910, 911] r S S1 ∧ mR S1 910 r = mR S 910 r ∧ mI S1 911 r = nI (beT s TX tp) ∧ (∀ Q, o = some Q → (∀ k, k < Q.length → k < 16 → eR S1 fnd k = some (X.ad (Q.getD k 0))) ∧ Cu S1 (cu 3) m p' q)
def I_be1 (r g k9 : Nat) (cu : Nat → Nat) (fnd m q p' : Nat) (X : GX) (s : SpT) (TX : List Nat) (tp : Nat) (oc : Option Nat) (S : MM) (t : Nat) : KT := fun lo st S1 cs sl => t = 4 ∧ beX S S1 r cu fnd m q p' X s TX tp (some []) ∧ lo = [(3, .inl (chI oc)), (2, .inl (nI k9)), (0, .inr (.inr (some r))), (1, .inr (.inr (some g)))] ∧ st = [] ∧ cs = 0 ∧ sl = 0
def I_be2 (r g k9 : Nat) (cu : Nat → Nat) (fnd m q p' : Nat) (X : GX) (G : Gr) (L : List Nat) (s : SpT) (la : Option Nat) (TX : List Nat) (tp : Nat) (oc : Option Nat) (S : MM) (t : Nat) : KT := fun lo st S1 cs sl => t = 3 ∧ lkE G s.1 (s.2.1 + k9) = none ∧ beX S S1 r cu fnd m q p' X s TX tp (beO G L la s k9) ∧ lo = [(5, .inl (skO (beO G L la s k9))), (3, .inl (chI oc)), (2, .inl (nI k9)), (0, .inr (.inr (some r))), (1, .inr (.inr (some g)))] ∧ st = [] ∧ cs = 0 ∧ sl = 0
def I_be3 (r g k9 : Nat) (cu : Nat → Nat) (fnd m q p' : Nat) (X : GX) (G : Gr) (L : List Nat) (s : SpT) (la : Option Nat) (TX : List Nat) (tp : Nat) (oc : Option Nat) (S : MM) (t : Nat) : KT := fun lo st S1 cs sl => ∃ Q, t = 2 ∧ lkE G s.1 (s.2.1 + k9) = none ∧ beO G L la s k9 = some Q ∧ Q.length ≤ 16 ∧ beX S S1 r cu fnd m q p' X s TX tp (some Q) ∧ lo = [(6, .inr (.inl (lN (thI s k9).toNat))), (5, .inl (nI Q.length)), (3, .inl (chI oc)), (2, .inl (nI k9)), (0, .inr (.inr (some r))), (1, .inr (.inr (some g)))] ∧ st = [] ∧ cs = 0 ∧ sl = 0
def I_be4 (r g k9 : Nat) (F : Nat → Nat × Nat) (cu : Nat → Nat) (fnd i : Nat) (A : Nat → Nat) (m q p' : Nat) (X : GX) (G : Gr) (T : Tr) (H : List Nat) (L : List Nat) (s : SpT) (la : Option Nat) (TX : List Nat) (tp : Nat) (oc : Option Nat) (S : MM) (t : Nat) : KT := fun lo st S1 cs sl => ∃ Q f S2 W', t = 1 ∧ lkE G s.1 (s.2.1 + k9) = none ∧ beO G L la s k9 = some Q ∧ Q.length ≤ 16 ∧ f = fltV G s.1 (s.2.1 + k9) (thI s k9).toNat Q (oc ≠ none) ∧ f < 8 ∧ beX S S2 r cu fnd m q p' X s TX tp (some Q) ∧ GI S1 F i A X G T H W' ∧ Keep (fun b => (F b).1 = i) S2 S1 ∧ (f = 0 → W' = G.jn Q) ∧ lo = [(8, .inl (nI f)), (6, .inr (.inl (lN (thI s k9).toNat))), (5, .inl (nI Q.length)), (3, .inl (chI oc)), (0, .inr (.inr (some r))), (1, .inr (.inr (some g)))] ∧ st = [] ∧ cs = 0 ∧ sl = 0
theorem flt8 {G : Gr} {a nu x : Nat} {P : List Nat} {ins : Prop} : fltV G a nu x P ins < 8 := by
  unfold fltV ift
  repeat' split
  all_goals decide
def T_rbe : TR := fun Rc Rs av S cs sl K _Kx => match av with
  | [.inr (.inr r_o), .inr (.inr g_o), .inl k9_v] => pa r_o fun r => (pa g_o fun g => (∃ (k9 : Nat), k9_v = nI k9 ∧ (∃ (F : Nat → Nat × Nat) (j pk : Nat) (cu : Nat → Nat) (ids fnd i : Nat) (A : Nat → Nat) (X : GX) (G : Gr) (T : Tr) (H : List Nat) (W : Nat → Nat) (m d : Nat) (B L : List Nat) (s : SpT) (la : Option Nat) (q p' rw dr : Nat) (TX : List Nat) (tp : Nat) (oc : Option Nat), (g = A 0 ∧ BrR S F j r pk cu ids fnd i A X G T H W m d B L s la q p' rw dr TX tp ∧ beP s k9 oc TX tp) ∧ cs + (nc_bC G L la s k9 oc) ≤ Rc ∧ sl + (nc_bZ G L la s k9 oc) ≤ Rs ∧ (∀ (v : Int32) (S' : MM), (beQ S S' F j r pk cu ids fnd i A X G T m d B L s la q p' rw dr TX tp k9 oc v) → K (some (.inl v)) S' (cs + (nc_bC G L la s k9 oc)) (sl + (nc_bZ G L la s k9 oc))))))
  | _ => False
noncomputable def sp_rbe (r : Nat) (g : Nat) (k9 : Nat) (F : Nat → Nat × Nat) (j pk : Nat) (cu : Nat → Nat) (ids fnd i : Nat) (A : Nat → Nat) (X : GX) (G : Gr) (T : Tr) (H : List Nat) (W : Nat → Nat) (m d : Nat) (B L : List Nat) (s : SpT) (la : Option Nat) (q p' rw dr : Nat) (TX : List Nat) (tp : Nat) (oc : Option Nat) : Sp := (fun av S => av = [.inr (.inr (some r)), .inr (.inr (some g)), .inl (nI k9)] ∧ (g = A 0 ∧ BrR S F j r pk cu ids fnd i A X G T H W m d B L s la q p' rw dr TX tp ∧ beP s k9 oc TX tp), fun _ S => nc_bC G L la s k9 oc, fun _ S => nc_bZ G L la s k9 oc, fun _ S rv S' => ∃ v, rv = (some (.inl v)) ∧ (beQ S S' F j r pk cu ids fnd i A X G T m d B L s la q p' rw dr TX tp k9 oc v), fun _ _ _ _ => False)
def tX8_bringEvent : CD := [(0, .aload_n 0), (1, .getfield 69), (4, .ifCond .ne 10), (7, .aload_n 0), (8, .invokevirtual 143), (11, .goto 4), (14, .iconst (-1)), (15, .istore_n 3), (16, .aload_n 1), (17, .aload_n 0), (18, .getfield 54), (21, .aload_n 0), (22, .getfield 57), (25, .iload_n 2), (26, .iadd), (27, .invokevirtual 146), (30, .astore 4), (32, .aload 4), (34, .ifnull 11), (37, .aload_n 0), (38, .aload 4), (40, .putfield 47), (43, .iconst 0), (44, .ireturn), (45, .aload_n 0), (46, .getfield 57), (49, .iload_n 2), (50, .iadd), (51, .aload_n 1), (52, .aload_n 0), (53, .getfield 54), (56, .invokevirtual 152), (59, .if_icmp .le 7), (62, .iconst (-1)), (63, .goto 9), (66, .aload_n 0), (67, .aload_n 1), (68, .iload_n 2), (69, .invokevirtual 156), (72, .istore 5), (74, .iload 5), (76, .iconst (-1)), (77, .if_icmp .ne 5), (80, .iconst 5), (81, .ireturn), (82, .iload 5), (84, .bipush 16), (86, .if_icmp .le 6), (89, .bipush 6), (91, .ireturn), (92, .aload_n 0), (93, .getfield 72), (96, .aload_n 0), (97, .getfield 69), (100, .ifCond .ne 7), (103, .iload_n 2), (104, .goto 17), (107, .aload_n 0), (108, .getfield 69), (111, .iconst 1), (112, .if_icmp .ne 7), (115, .iconst 0), (116, .goto 5), (119, .iload_n 2), (120, .ineg), (121, .i2l), (122, .ladd), (123, .lstore 6), (125, .aload_n 1), (126, .aload_n 0), (127, .getfield 54), (130, .aload_n 0), (131, .getfield 57), (134, .iload_n 2), (135, .iadd), (136, .aload_n 0), (137, .getfield 39), (140, .iload 5), (142, .aload_n 0), (143, .getfield 69), (146, .ifCond .ne 7), (149, .iconst 1), (150, .goto 4), (153, .iconst 0), (154, .lload 6), (156, .invokevirtual 159), (159, .istore 8), (161, .iload 8), (163, .ifCond .ne 29), (166, .aload_n 1), (167, .aload_n 0), (168, .getfield 54), (171, .aload_n 0), (172, .getfield 39), (175, .iload 5), (177, .iload_n 3), (178, .lload 6), (180, .l2i), (181, .invokevirtual 163), (184, .aload_n 0), (185, .aload_n 1), (186, .invokevirtual 167), (189, .putfield 47), (192, .iload 8), (194, .ireturn)]
set_option maxRecDepth 100000 in
theorem kX8_bringEvent : chk cX8_bringEvent tX8_bringEvent = true := by decide +kernel
theorem vX8_bringEvent_143 : ∀ w ∈ ([.methodLink RX8 143 yX8_nextSymbol, .instanceMethod yX8_nextSymbol, .selects yX8_nextSymbol.cls yX8_nextSymbol yX8_nextSymbol, .initialized yX8_nextSymbol.cls, .code yX8_nextSymbol cX8_nextSymbol 2 (some .int)] : List Cond), w ∈ lw_good := List.forall_mem_cons.mpr ⟨mgd 1555 (by decide +kernel) (by decide +kernel), List.forall_mem_cons.mpr ⟨mgd 1557 (by decide +kernel) (by decide +kernel), List.forall_mem_cons.mpr ⟨mgd 46 (by decide +kernel) (by decide +kernel), List.forall_mem_cons.mpr ⟨mgd 134 (by decide +kernel) (by decide +kernel), List.forall_mem_cons.mpr ⟨mgd 1558 (by decide +kernel) (by decide +kernel), fun _ h => absurd h List.not_mem_nil⟩⟩⟩⟩⟩
theorem vX8_bringEvent_146 : ∀ w ∈ ([.methodLink RX8 146 yX5_lookup, .instanceMethod yX5_lookup, .selects yX5_lookup.cls yX5_lookup yX5_lookup, .initialized yX5_lookup.cls, .code yX5_lookup cX5_lookup 3 (some (.object "WeaveText$Event"))] : List Cond), w ∈ lw_good := List.forall_mem_cons.mpr ⟨mgd 1561 (by decide +kernel) (by decide +kernel), List.forall_mem_cons.mpr ⟨mgd 665 (by decide +kernel) (by decide +kernel), List.forall_mem_cons.mpr ⟨mgd 666 (by decide +kernel) (by decide +kernel), List.forall_mem_cons.mpr ⟨mgd 125 (by decide +kernel) (by decide +kernel), List.forall_mem_cons.mpr ⟨mgd 667 (by decide +kernel) (by decide +kernel), fun _ h => absurd h List.not_mem_nil⟩⟩⟩⟩⟩
theorem vX8_bringEvent_152 : ∀ w ∈ ([.methodLink RX8 152 yX5_countOf, .instanceMethod yX5_countOf, .selects yX5_countOf.cls yX5_countOf yX5_countOf, .initialized yX5_countOf.cls, .code yX5_countOf cX5_countOf 3 (some .int)] : List Cond), w ∈ lw_good := List.forall_mem_cons.mpr ⟨mgd 1562 (by decide +kernel) (by decide +kernel), List.forall_mem_cons.mpr ⟨mgd 669 (by decide +kernel) (by decide +kernel), List.forall_mem_cons.mpr ⟨mgd 670 (by decide +kernel) (by decide +kernel), List.forall_mem_cons.mpr ⟨mgd 125 (by decide +kernel) (by decide +kernel), List.forall_mem_cons.mpr ⟨mgd 671 (by decide +kernel) (by decide +kernel), fun _ h => absurd h List.not_mem_nil⟩⟩⟩⟩⟩
theorem vX8_bringEvent_156 : ∀ w ∈ ([.methodLink RX8 156 yX8_seekParents, .instanceMethod yX8_seekParents, .selects yX8_seekParents.cls yX8_seekParents yX8_seekParents, .initialized yX8_seekParents.cls, .code yX8_seekParents cX8_seekParents 6 (some .int)] : List Cond), w ∈ lw_good := List.forall_mem_cons.mpr ⟨mgd 1563 (by decide +kernel) (by decide +kernel), List.forall_mem_cons.mpr ⟨mgd 1565 (by decide +kernel) (by decide +kernel), List.forall_mem_cons.mpr ⟨mgd 47 (by decide +kernel) (by decide +kernel), List.forall_mem_cons.mpr ⟨mgd 134 (by decide +kernel) (by decide +kernel), List.forall_mem_cons.mpr ⟨mgd 1566 (by decide +kernel) (by decide +kernel), fun _ h => absurd h List.not_mem_nil⟩⟩⟩⟩⟩
theorem vX8_bringEvent_159 : ∀ w ∈ ([.methodLink RX8 159 yX5_faultOf, .instanceMethod yX5_faultOf, .selects yX5_faultOf.cls yX5_faultOf yX5_faultOf, .initialized yX5_faultOf.cls, .code yX5_faultOf cX5_faultOf 9 (some .int)] : List Cond), w ∈ lw_good := List.forall_mem_cons.mpr ⟨mgd 1567 (by decide +kernel) (by decide +kernel), List.forall_mem_cons.mpr ⟨mgd 1568 (by decide +kernel) (by decide +kernel), List.forall_mem_cons.mpr ⟨mgd 1569 (by decide +kernel) (by decide +kernel), List.forall_mem_cons.mpr ⟨mgd 125 (by decide +kernel) (by decide +kernel), List.forall_mem_cons.mpr ⟨mgd 1570 (by decide +kernel) (by decide +kernel), fun _ h => absurd h List.not_mem_nil⟩⟩⟩⟩⟩
theorem vX8_bringEvent_163 : ∀ w ∈ ([.methodLink RX8 163 yX5_enter, .instanceMethod yX5_enter, .selects yX5_enter.cls yX5_enter yX5_enter, .initialized yX5_enter.cls, .code yX5_enter cX5_enter 11 none] : List Cond), w ∈ lw_good := List.forall_mem_cons.mpr ⟨mgd 1576 (by decide +kernel) (by decide +kernel), List.forall_mem_cons.mpr ⟨mgd 899 (by decide +kernel) (by decide +kernel), List.forall_mem_cons.mpr ⟨mgd 900 (by decide +kernel) (by decide +kernel), List.forall_mem_cons.mpr ⟨mgd 125 (by decide +kernel) (by decide +kernel), List.forall_mem_cons.mpr ⟨mgd 901 (by decide +kernel) (by decide +kernel), fun _ h => absurd h List.not_mem_nil⟩⟩⟩⟩⟩
theorem vX8_bringEvent_167 : ∀ w ∈ ([.methodLink RX8 167 yX5_newest, .instanceMethod yX5_newest, .selects yX5_newest.cls yX5_newest yX5_newest, .initialized yX5_newest.cls, .code yX5_newest cX5_newest 1 (some (.object "WeaveText$Event"))] : List Cond), w ∈ lw_good := List.forall_mem_cons.mpr ⟨mgd 1577 (by decide +kernel) (by decide +kernel), List.forall_mem_cons.mpr ⟨mgd 1578 (by decide +kernel) (by decide +kernel), List.forall_mem_cons.mpr ⟨mgd 1579 (by decide +kernel) (by decide +kernel), List.forall_mem_cons.mpr ⟨mgd 125 (by decide +kernel) (by decide +kernel), List.forall_mem_cons.mpr ⟨mgd 1580 (by decide +kernel) (by decide +kernel), fun _ h => absurd h List.not_mem_nil⟩⟩⟩⟩⟩
set_option maxRecDepth 100000 in
set_option maxHeartbeats 2000000 in
theorem c_rbe (l : Launch) : ∀ (r : Nat) (g : Nat) (k9 : Nat) (F : Nat → Nat × Nat) (j pk : Nat) (cu : Nat → Nat) (ids fnd i : Nat) (A : Nat → Nat) (X : GX) (G : Gr) (T : Tr) (H : List Nat) (W : Nat → Nat) (m d : Nat) (B L : List Nat) (s : SpT) (la : Option Nat) (q p' rw dr : Nat) (TX : List Nat) (tp : Nat) (oc : Option Nat), Ct l yX8_bringEvent cX8_bringEvent 9 (some .int) 8 195 (sp_rbe r g k9 F j pk cu ids fnd i A X G T H W m d B L s la q p' rw dr TX tp oc) := by
  intro r g k9 F j pk cu ids fnd i A X G T H W m d B L s la q p' rw dr TX tp oc
  refine Ct.of (fX8, nX8, aX8, iX8, lX8, [(143, 0, 1, 1, T_rns), (146, 0, 3, 3, T_glkp), (152, 0, 2, 1, T_gcof), (156, 0, 3, 1, T_rsk), (159, 0, 7, 1, T_gfo), (163, 0, 6, 0, T_gen), (167, 0, 1, 3, T_gnew)], qX8, gX8, []) false tX8_bringEvent (fun _ S => look [(16, ([3,2,0,1], I_be1 r g k9 cu fnd m q p' X s TX tp oc S)), (74, ([5,3,2,0,1], I_be2 r g k9 cu fnd m q p' X G L s la TX tp oc S)), (125, ([6,5,3,2,0,1], I_be3 r g k9 cu fnd m q p' X G L s la TX tp oc S)), (161, ([8,6,5,3,0,1], I_be4 r g k9 F cu fnd i A m q p' X G T H L s la TX tp oc S))]) (by decide) (by decide) kX8_bringEvent ⟨_, _, rfl⟩ fX8_ok nX8_ok aX8_ok iX8_ok lX8_ok (fun p e R s m args below meth c Q D cy z r A C hR1 hR2 => List.forall_mem_cons.mpr ⟨cOK_use (fun _ _ _ _ _ _ _ _ h => let ⟨sp, h1, h2, h3⟩ := u_rns l _ _ _ _ _ _ _ _ h; ⟨sp, cOK_V C h1 vX8_bringEvent_143 ⟨by decide, by decide, by decide +kernel⟩ ⟨by rw [hR1]; decide, by rw [hR2]; decide⟩ (k := 9) (T := TX8) (N := 20) rfl (by decide) h2, h3⟩), List.forall_mem_cons.mpr ⟨cOK_use (fun _ _ _ _ _ _ _ _ h => let ⟨sp, h1, h2, h3⟩ := u_glkp l _ _ _ _ _ _ _ _ h; ⟨sp, cOK_V C h1 vX8_bringEvent_146 ⟨by decide, by decide, by decide +kernel⟩ ⟨by rw [hR1]; decide, by rw [hR2]; decide⟩ (k := 6) (T := TX5) (N := 12) rfl (by decide) h2, h3⟩), List.forall_mem_cons.mpr ⟨cOK_use (fun _ _ _ _ _ _ _ _ h => let ⟨sp, h1, h2, h3⟩ := u_gcof l _ _ _ _ _ _ _ _ h; ⟨sp, cOK_V C h1 vX8_bringEvent_152 ⟨by decide, by decide, by decide +kernel⟩ ⟨by rw [hR1]; decide, by rw [hR2]; decide⟩ (k := 6) (T := TX5) (N := 12) rfl (by decide) h2, h3⟩), List.forall_mem_cons.mpr ⟨cOK_use (fun _ _ _ _ _ _ _ _ h => let ⟨sp, h1, h2, h3⟩ := u_rsk l _ _ _ _ _ _ _ _ h; ⟨sp, cOK_V C h1 vX8_bringEvent_156 ⟨by decide, by decide, by decide +kernel⟩ ⟨by rw [hR1]; decide, by rw [hR2]; decide⟩ (k := 9) (T := TX8) (N := 20) rfl (by decide) h2, h3⟩), List.forall_mem_cons.mpr ⟨cOK_use (fun _ _ _ _ _ _ _ _ h => let ⟨sp, h1, h2, h3⟩ := u_gfo l _ _ _ _ _ _ _ _ h; ⟨sp, cOK_V C h1 vX8_bringEvent_159 ⟨by decide, by decide, by decide +kernel⟩ ⟨by rw [hR1]; decide, by rw [hR2]; decide⟩ (k := 6) (T := TX5) (N := 12) rfl (by decide) h2, h3⟩), List.forall_mem_cons.mpr ⟨cOK_use (fun _ _ _ _ _ _ _ _ h => let ⟨sp, h1, h2, h3⟩ := u_gen l _ _ _ _ _ _ _ _ h; ⟨sp, cOK_V C h1 vX8_bringEvent_163 ⟨by decide, by decide, by decide +kernel⟩ ⟨by rw [hR1]; decide, by rw [hR2]; decide⟩ (k := 6) (T := TX5) (N := 12) rfl (by decide) h2, h3⟩), List.forall_mem_cons.mpr ⟨cOK_use (fun _ _ _ _ _ _ _ _ h => let ⟨sp, h1, h2, h3⟩ := u_gnew l _ _ _ _ _ _ _ _ h; ⟨sp, cOK_V C h1 vX8_bringEvent_167 ⟨by decide, by decide, by decide +kernel⟩ ⟨by rw [hR1]; decide, by rw [hR2]; decide⟩ (k := 6) (T := TX5) (N := 12) rfl (by decide) h2, h3⟩), fun _ h => absurd h List.not_mem_nil⟩⟩⟩⟩⟩⟩⟩) qX8_ok gX8_ok rfl ?_ ?_
  · rintro _ S ⟨rfl, hp⟩
    refine ⟨Nat.le_of_ble_eq_true rfl, 300, ?_⟩
    show (isO S 9 r ∧ ((¬ (mI S 917 r) = 0 → (∃ k1, I_be1 r g k9 cu fnd m q p' X s TX tp oc S k1 [(3, .inl (-1 : Int32)), (2, .inl (nI k9)), (0, .inr (.inr (some r))), (1, .inr (.inr (some g)))] [] S 0 0)) ∧ ((mI S 917 r) = 0 → (0 = 0 ∧ (∃ (F_1 : Nat → Nat × Nat) (j_2 pk_3 : Nat) (cu_4 : Nat → Nat) (ids_5 fnd_6 rw_7 dr_8 : Nat) (T_9 : List Nat) (p_10 : Nat), (RD S F_1 j_2 r pk_3 cu_4 ids_5 fnd_6 ∧ isO S 8 pk_3 ∧ mR S 800 pk_3 = some rw_7 ∧ By S rw_7 dr_8 T_9 ∧ mI S 911 r = nI p_10 ∧ p_10 ≤ 1000000) ∧ 0 ≤ nc_bC G L la s k9 oc ∧ 0 ≤ nc_bZ G L la s k9 oc ∧ ((∃ k1, I_be1 r g k9 cu fnd m q p' X s TX tp oc S k1 [(3, .inl (symAt T_9 p_10)), (2, .inl (nI k9)), (0, .inr (.inr (some r))), (1, .inr (.inr (some g)))] [] (sI S 911 r (nI (p_10 + wN (symAt T_9 p_10)))) 0 0)))))))
    obtain ⟨hg, hK, hP⟩ := hp
    have hK0 := hK
    obtain ⟨⟨hR, hG, hF, hi, hij, hB, hs, hc, h9, hl, hA, hids, h10, hla, hC, hq, hPr⟩, b1, b2, b3, b4, b5, b6⟩ := hK
    obtain ⟨q1, q2, q3, q4, q5, q6, q7, q8⟩ := hP
    rw [show mI S 917 r = nI s.2.2.2.2.2.2.1 from hs.2.2.2.2.2.1]
    have fo : ∀ S1 : MM, Cu S1 (cu 3) m p' q → ∀ Q, some ([] : List Nat) = some Q → (∀ k, k < Q.length → k < 16 → eR S1 fnd k = some (X.ad (Q.getD k 0))) ∧ Cu S1 (cu 3) m p' q := fun S1 c Q e => by
      injection e with e
      subst e
      exact ⟨fun k hk => absurd hk (Nat.not_lt_zero k), c⟩
    refine ⟨hR.1, fun z => ?_, fun z => ⟨rfl, F, j, pk, cu, ids, fnd, rw, dr, TX, tp, ⟨hR, b1, b2, b3, b4, by omega⟩, Nat.zero_le _, Nat.zero_le _, ?_⟩⟩
    · have kn : s.2.2.2.2.2.2.1 ≠ 0 := fun e => z (by rw [e]; rfl)
      have on : oc = none := q8.elim (fun w => absurd w.1 kn) (fun w => w.2)
      refine ⟨4, rfl, ⟨RW.rf, rfl, ?_, fo S hC⟩, by rw [on]; rfl, rfl, rfl, rfl⟩
      unfold beT
      rw [if_neg kn]; exact b4
    · have kz : s.2.2.2.2.2.2.1 = 0 := (nI_eq (b := 0) (by omega) (by decide)).1 z
      obtain ⟨c, oe, oc2, sc⟩ := q8.elim (fun w => w.2) (fun w => absurd kz w.1)
      refine ⟨4, rfl, ⟨RW.rf.wI (by decide), rfl, ?_, fo _ (hC.keep (Keep.sI (P := fun b => b = r) Keep.rf rfl) (fun e => hR.cr (a := 3) (by decide) e.symm))⟩, by rw [oe, sc]; rfl, rfl, rfl, rfl⟩
      unfold beT
      rw [if_pos kz]; exact mI_sIs
  · intro av S hpre pc I hI k lo st S1 cs sl h
    obtain ⟨rfl, hp⟩ := hpre
    have hm := look_in hI
    simp only [List.mem_cons, List.not_mem_nil, or_false] at hm
    rcases hm with hm | hm | hm | hm
    · cases hm
      obtain ⟨rfl, hX, rfl, rfl, rfl, rfl⟩ := h
      obtain ⟨hg, hK, hP⟩ := hp
      have hK0 := hK
      obtain ⟨q1, q2, q3, q4, q5, q6, q7, q8⟩ := hP
      have tpl : beT s TX tp ≤ 100000 := by unfold beT; have := wN_le (symAt TX tp); split <;> omega
      obtain ⟨x1, x2, x3, x4⟩ := hX
      obtain ⟨c1, c2, c3, c4, c5, c6, c7, c8, c9, c10⟩ := hK.kp x1
      obtain ⟨⟨hR, hG, hF, hi, hij, hB, hs, hc, h9, hl, hA, hids, h10, hla, hC, hq, hPr⟩, b1, b2, b3, b4, b5, b6⟩ := hK
      have kS : Keep (fun b => (F b).1 = i ∨ (F b).1 = j) S S1 := x1.1.mono (fun b _ z => Or.inr (SkW.own hR z))
      refine ⟨300, ?_⟩
      show (isO S1 9 r ∧ (isO S1 9 r ∧ (0 = 0 ∧ (∃ (i_1 : Nat), mI S1 912 r = nI i_1 ∧ (∃ (ar_2 : Nat) (Lf_3 : Nat → List Nat), (AgT S1 g ar_2 Lf_3 ∧ i_1 < 256) ∧ 0 ≤ nc_bC G L la s k9 oc ∧ 0 ≤ nc_bZ G L la s k9 oc ∧ ((((lkp (Lf_3 i_1) ((mI S1 913 r) + (nI k9))) = none → (isO S1 9 r ∧ (isO S1 9 r ∧ (0 = 0 ∧ (∃ (i_6 : Nat), mI S1 912 r = nI i_6 ∧ (∃ (ar_7 : Nat) (Lf_8 : Nat → List Nat), (AgT S1 g ar_7 Lf_8 ∧ i_6 < 256) ∧ 0 ≤ nc_bC G L la s k9 oc ∧ 0 ≤ nc_bZ G L la s k9 oc ∧ (((((mI S1 913 r) + (nI k9)) ≤ (nI (Lf_8 i_6).length) → (0 = 0 ∧ (∃ (k9_10 : Nat), nI k9 = nI k9_10 ∧ (∃ (F_11 : Nat → Nat × Nat) (j_12 pk_13 : Nat) (cu_14 : Nat → Nat) (ids_15 fnd_16 i_17 : Nat) (A_18 : Nat → Nat) (X_19 : GX) (G_20 : Gr) (T_21 : Tr) (H_22 : List Nat) (W_23 : Nat → Nat) (m_24 d_25 : Nat) (B_26 L_27 : List Nat) (s_28 : SpT) (la_29 : Option Nat) (q_30 p'_31 : Nat), (g = A_18 0 ∧ skR S1 F_11 j_12 r pk_13 cu_14 ids_15 fnd_16 i_17 A_18 X_19 G_20 T_21 H_22 W_23 m_24 d_25 B_26 L_27 s_28 la_29 q_30 p'_31 ∧ k9_10 < 2147483648) ∧ 0 ≤ nc_bC G L la s k9 oc ∧ 0 ≤ nc_bZ G L la s k9 oc ∧ (∀ (S_32 : MM), (skQ S1 S_32 r m_24 cu_14 fnd_16 X_19 q_30 p'_31 (skV G_20 L_27 la_29 s_28 k9_10)) → (∃ k1, k1 < 4 ∧ I_be2 r g k9 cu fnd m q p' X G L s la TX tp oc S k1 [(5, .inl (skO (skV G_20 L_27 la_29 s_28 k9_10))), (3, .inl (chI oc)), (2, .inl (nI k9)), (0, .inr (.inr (some r))), (1, .inr (.inr (some g)))] [] S_32 0 0)))))) ∧ (¬ ((mI S1 913 r) + (nI k9)) ≤ (nI (Lf_8 i_6).length) → (∃ k1, k1 < 4 ∧ I_be2 r g k9 cu fnd m q p' X G L s la TX tp oc S k1 [(5, .inl (-1 : Int32)), (3, .inl (chI oc)), (2, .inl (nI k9)), (0, .inr (.inr (some r))), (1, .inr (.inr (some g)))] [] S1 0 0)))))))))) ∧ (∀ w_5, (lkp (Lf_3 i_1) ((mI S1 913 r) + (nI k9))) = some w_5 → (True ∧ (isO S1 9 r ∧ (([] : List MV) = [] ∧ mret (some .int) (sp_rbe r g k9 F j pk cu ids fnd i A X G T H W m d B L s la q p' rw dr TX tp oc) [.inr (.inr (some r)), .inr (.inr (some g)), .inl (nI k9)] S (some (.inl (0 : Int32))) (sR S1 910 r (lkp (Lf_3 i_1) ((mI S1 913 r) + (nI k9)))) 0 0)))))))))))
      subst hg
      have hn : mI S1 913 r + nI k9 = nI (s.2.1 + k9) := by rw [c4.2.1, nI_add]
      have c3u := (x4 [] rfl).2
      have h10' : mR S1 910 r = la.map X.ad := x2.trans h10
      rw [hn]
      refine ⟨c1.1, c1.1, rfl, s.1, c4.1, A 4, _, ⟨c2.agt, q1⟩, Nat.zero_le _, Nat.zero_le _, ?_⟩
      have lk : lkp ((agE G s.1).map X.ad) (nI (s.2.1 + k9)) = (lkE G s.1 (s.2.1 + k9)).map X.ad := lkp_E q2
      rw [lk]
      cases el : lkE G s.1 (s.2.1 + k9) with
      | some e =>
        refine ⟨(fun z => by cases z), fun w _ => ⟨trivial, c1.1, rfl, trivial, ⟨0, rfl, F, A, X, G, T, H, W, some e, 0, rfl, by decide, Or.inl ⟨e, el, rfl, rfl, rfl, rfl⟩, ?_⟩, Nat.zero_le _, Nat.zero_le _⟩⟩
        have y1 : RW (SkW cu fnd) [910, 911] r S (sR S1 910 r (some (X.ad e))) := x1.wR (by decide)
        obtain ⟨d1, d2, d3, d4, d5, d6, d7, d8, d9, d10⟩ := hK0.kp y1
        refine ⟨d2, d10, d1, fun _ _ => rfl, y1.1.mono (fun b _ z => Or.inr (SkW.own hR z)), bk2.w hR y1, fun _ _ _ _ _ => rfl, fun _ _ => rfl, fun _ => hK0.go y1 ?_ (fun e' he' => ?_) x3 tpl ?_⟩
        · rw [mR_sR, if_pos ⟨rfl, rfl⟩]; rfl
        · injection he' with he'
          rw [← he']; exact lkE_lt el
        · exact c3u.keep (Keep.sR (P := fun b => b = r) Keep.rf rfl) (fun e => hR.cr (a := 3) (by decide) e.symm)
      | none =>
        refine ⟨fun _ => ⟨c1.1, c1.1, rfl, s.1, c4.1, A 4, _, ⟨c2.agt, q1⟩, Nat.zero_le _, Nat.zero_le _, ?_⟩, fun w z => by cases z⟩
        show (nI (s.2.1 + k9) ≤ nI ((agE G s.1).map X.ad).length → _) ∧ _
        rw [List.length_map]
        have al : (agE G s.1).length ≤ 8192 := by
          have h1 := List.length_filter_le (fun k => decide (G.ag (G.ev k).sl = s.1)) (List.range G.n)
          rw [List.length_range] at h1
          exact Nat.le_trans h1 c2.ok.hn
        refine if_le q2 (by omega) (fun h8 => ⟨rfl, k9, rfl, F, j, pk, cu, ids, fnd, i, A, X, G, T, H, W, m, d, B, L, s, la, q, p', ⟨rfl, (hK0.go x1 h10' hla x3 tpl c3u).1, q3⟩, Nat.zero_le _, Nat.zero_le _, fun S2 h2 => ?_⟩) (fun h8 => ⟨3, by decide, rfl, el, ⟨x1, x2, x3, fun Q hQ => ?_⟩, ?_, rfl, rfl, rfl⟩)
        · obtain ⟨g1, g2⟩ := h2
          have eo : beO G L la s k9 = skV G L la s k9 := if_neg (by omega)
          exact ⟨3, by decide, rfl, el, ⟨x1.tr (g1.mono (fun _ z => z) (by decide)), (g1.2.2.1 910 (by decide)).trans x2, (g1.2.1 911 (by decide)).trans x3, fun Q hQ => g2 Q (eo.symm.trans hQ)⟩, by rw [eo], rfl, rfl, rfl⟩
        · rw [show beO G L la s k9 = none from if_pos h8] at hQ; cases hQ
        · rw [show beO G L la s k9 = none from if_pos h8]; rfl
    · cases hm
      obtain ⟨rfl, hn, hX, rfl, rfl, rfl, rfl⟩ := h
      obtain ⟨hg, hK, hP⟩ := hp
      have hK0 := hK
      obtain ⟨q1, q2, q3, q4, q5, q6, q7, q8⟩ := hP
      have tpl : beT s TX tp ≤ 100000 := by unfold beT; have := wN_le (symAt TX tp); split <;> omega
      obtain ⟨x1, x2, x3, x4⟩ := hX
      obtain ⟨c1, c2, c3, c4, c5, c6, c7, c8, c9, c10⟩ := hK.kp x1
      obtain ⟨⟨hR, hG, hF, hi, hij, hB, hs, hc, h9, hl, hA, hids, h10, hla, hC, hq, hPr⟩, b1, b2, b3, b4, b5, b6⟩ := hK
      have kS : Keep (fun b => (F b).1 = i ∨ (F b).1 = j) S S1 := x1.1.mono (fun b _ z => Or.inr (SkW.own hR z))
      refine ⟨300, ?_⟩
      show ((¬ (skO (beO G L la s k9)) = (-1 : Int32) → (((skO (beO G L la s k9)) ≤ (16 : Int32) → (isO S1 9 r ∧ (isO S1 9 r ∧ ((¬ (mI S1 917 r) = 0 → (isO S1 9 r ∧ ((¬ (mI S1 917 r) = (1 : Int32) → (∃ k1, k1 < 3 ∧ I_be3 r g k9 cu fnd m q p' X G L s la TX tp oc S k1 [(6, .inr (.inl ((mJ S1 918 r) + ((-(nI k9)).toInt64)))), (5, .inl (skO (beO G L la s k9))), (3, .inl (chI oc)), (2, .inl (nI k9)), (0, .inr (.inr (some r))), (1, .inr (.inr (some g)))] [] S1 0 0)) ∧ ((mI S1 917 r) = (1 : Int32) → (∃ k1, k1 < 3 ∧ I_be3 r g k9 cu fnd m q p' X G L s la TX tp oc S k1 [(6, .inr (.inl ((mJ S1 918 r) + ((0 : Int32).toInt64)))), (5, .inl (skO (beO G L la s k9))), (3, .inl (chI oc)), (2, .inl (nI k9)), (0, .inr (.inr (some r))), (1, .inr (.inr (some g)))] [] S1 0 0))))) ∧ ((mI S1 917 r) = 0 → (∃ k1, k1 < 3 ∧ I_be3 r g k9 cu fnd m q p' X G L s la TX tp oc S k1 [(6, .inr (.inl ((mJ S1 918 r) + ((nI k9).toInt64)))), (5, .inl (skO (beO G L la s k9))), (3, .inl (chI oc)), (2, .inl (nI k9)), (0, .inr (.inr (some r))), (1, .inr (.inr (some g)))] [] S1 0 0)))))) ∧ (¬ (skO (beO G L la s k9)) ≤ (16 : Int32) → (([] : List MV) = [] ∧ mret (some .int) (sp_rbe r g k9 F j pk cu ids fnd i A X G T H W m d B L s la q p' rw dr TX tp oc) [.inr (.inr (some r)), .inr (.inr (some g)), .inl (nI k9)] S (some (.inl (6 : Int32))) S1 0 0)))) ∧ ((skO (beO G L la s k9)) = (-1 : Int32) → (([] : List MV) = [] ∧ mret (some .int) (sp_rbe r g k9 F j pk cu ids fnd i A X G T H W m d B L s la q p' rw dr TX tp oc) [.inr (.inr (some r)), .inr (.inr (some g)), .inl (nI k9)] S (some (.inl (5 : Int32))) S1 0 0)))
      have ret : ∀ f, beO G L la s k9 = none ∧ f = 5 ∨ (∃ Q, beO G L la s k9 = some Q ∧ 16 < Q.length ∧ f = 6) → mret (some .int) (sp_rbe r g k9 F j pk cu ids fnd i A X G T H W m d B L s la q p' rw dr TX tp oc) [.inr (.inr (some r)), .inr (.inr (some g)), .inl (nI k9)] S (some (.inl (nI f))) S1 0 0 := by
        intro f hf
        refine ⟨trivial, ⟨nI f, rfl, F, A, X, G, T, H, W, la, f, rfl, ?_, Or.inr ⟨hn, ?_⟩, c2, c10, c1, fun _ _ => rfl, kS, bk2.w hR x1, fun _ _ _ _ _ => rfl, fun _ _ => rfl, fun z => ?_⟩, Nat.zero_le _, Nat.zero_le _⟩
        · rcases hf with ⟨_, e⟩ | ⟨_, _, _, e⟩ <;> rw [e] <;> decide
        · rcases hf with ⟨e1, e⟩ | ⟨Q, e1, e2, e⟩
          · exact Or.inl ⟨e1, e, rfl, rfl⟩
          · exact Or.inr ⟨Q, e1, Or.inl ⟨e2, e, rfl, rfl⟩⟩
        · rcases hf with ⟨_, e⟩ | ⟨_, _, _, e⟩ <;> rw [e] at z <;> cases z
      cases eo : beO G L la s k9 with
      | none => exact ⟨fun z => absurd rfl z, fun _ => ⟨rfl, ret 5 (Or.inl ⟨eo, rfl⟩)⟩⟩
      | some Q =>
        have ev : skV G L la s k9 = some Q := by
          unfold beO at eo
          split at eo
          · cases eo
          · exact eo
        have hQ := skV_all hK0.1 ev
        refine ⟨fun _ => if_le (b := 16) hQ.1 (by decide) (fun h8 => ?_) (fun h8 => ⟨rfl, ret 6 (Or.inr ⟨Q, eo, h8, rfl⟩)⟩), fun z => ?_⟩
        · have fin : ∀ w, mJ S1 918 r + w = lZ (thI s k9) → ∃ k1, k1 < 3 ∧ I_be3 r g k9 cu fnd m q p' X G L s la TX tp oc S k1 [(6, .inr (.inl (mJ S1 918 r + w))), (5, .inl (skO (some Q))), (3, .inl (chI oc)), (2, .inl (nI k9)), (0, .inr (.inr (some r))), (1, .inr (.inr (some g)))] [] S1 0 0 := fun w hw => ⟨2, by decide, Q, rfl, hn, eo, h8, ⟨x1, x2, x3, fun Q' hQ' => x4 Q' (eo.trans hQ')⟩, by rw [hw, lZ_N q5]; rfl, rfl, rfl, rfl⟩
          rw [show mI S1 917 r = nI s.2.2.2.2.2.2.1 from c4.2.2.2.2.2.1]
          have e18 : mJ S1 918 r = lZ s.2.2.2.2.2.2.2 := c4.2.2.2.2.2.2
          refine ⟨c1.1, c1.1, fun z0 => ⟨c1.1, fun z1 => fin _ ?_, fun z1 => fin _ ?_⟩, fun z0 => fin _ ?_⟩
          · have k0 : s.2.2.2.2.2.2.1 ≠ 0 := fun e => z0 (by rw [e]; rfl)
            have k1 : s.2.2.2.2.2.2.1 ≠ 1 := fun e => z1 (by rw [e]; rfl)
            rw [e18, lZ_ng q3, lZ_add]
            unfold thI
            rw [if_neg k0, if_neg k1]
          · have k0 : s.2.2.2.2.2.2.1 ≠ 0 := fun e => z0 (by rw [e]; rfl)
            have k1 : s.2.2.2.2.2.2.1 = 1 := (nI_eq (b := 1) (by omega) (by decide)).1 z1
            rw [e18, show Int32.toInt64 0 = lZ 0 from rfl, lZ_add]
            unfold thI
            rw [if_neg k0, if_pos k1]
          · have k0 : s.2.2.2.2.2.2.1 = 0 := (nI_eq (b := 0) (by omega) (by decide)).1 z0
            rw [e18, lZ_of q3, lZ_add]
            unfold thI
            rw [if_pos k0]
        · have h1 := nI_pos hQ.1
          rw [show nI Q.length = -1 from z] at h1
          exact absurd (by decide) h1
    · cases hm
      obtain ⟨Q, rfl, hn, hO, hQ, hX, rfl, rfl, rfl, rfl⟩ := h
      obtain ⟨hg, hK, hP⟩ := hp
      have hK0 := hK
      obtain ⟨q1, q2, q3, q4, q5, q6, q7, q8⟩ := hP
      have tpl : beT s TX tp ≤ 100000 := by unfold beT; have := wN_le (symAt TX tp); split <;> omega
      obtain ⟨x1, x2, x3, x4⟩ := hX
      obtain ⟨c1, c2, c3, c4, c5, c6, c7, c8, c9, c10⟩ := hK.kp x1
      obtain ⟨⟨hR, hG, hF, hi, hij, hB, hs, hc, h9, hl, hA, hids, h10, hla, hC, hq, hPr⟩, b1, b2, b3, b4, b5, b6⟩ := hK
      refine ⟨300, ?_⟩
      show (isO S1 9 r ∧ (isO S1 9 r ∧ (isO S1 9 r ∧ (isO S1 9 r ∧ ((¬ (mI S1 917 r) = 0 → (0 = 0 ∧ ((pa (mR S1 908 r) fun a_1 => (∃ (a_2 : Nat), mI S1 912 r = nI a_2 ∧ (∃ (nu_3 : Nat), (mI S1 913 r) + (nI k9) = nI nu_3 ∧ (∃ (n_4 : Nat), nI Q.length = nI n_4 ∧ (∃ (F_5 : Nat → Nat × Nat) (i_6 : Nat) (A_7 : Nat → Nat) (X_8 : GX) (G_9 : Gr) (T_10 : Tr) (H_11 : List Nat) (W_12 : Nat → Nat) (P_13 : List Nat) (ins_14 : Prop) (xn_15 : Nat), (g = A_7 0 ∧ GI S1 F_5 i_6 A_7 X_8 G_9 T_10 H_11 W_12 ∧ RwE S1 X_8 G_9 a_1 P_13 ∧ (F_5 a_1).1 ≠ i_6 ∧ n_4 = P_13.length ∧ a_2 < 256 ∧ nu_3 < 2147483648 ∧ (0 : Int32) = tf ins_14 ∧ (lN (thI s k9).toNat) = lN xn_15 ∧ xn_15 < 4611686018427387904) ∧ 0 ≤ nc_bC G L la s k9 oc ∧ 0 ≤ nc_bZ G L la s k9 oc ∧ (∀ (S_16 : MM), (foP S1 S_16 F_5 i_6 A_7 X_8 G_9 T_10 H_11 P_13 (fltV G_9 a_2 nu_3 xn_15 P_13 ins_14)) → (∃ k1, k1 < 2 ∧ I_be4 r g k9 F cu fnd i A m q p' X G T H L s la TX tp oc S k1 [(8, .inl (nI (fltV G_9 a_2 nu_3 xn_15 P_13 ins_14))), (6, .inr (.inl (lN (thI s k9).toNat))), (5, .inl (nI Q.length)), (3, .inl (chI oc)), (0, .inr (.inr (some r))), (1, .inr (.inr (some g)))] [] S_16 0 0)))))))))) ∧ ((mI S1 917 r) = 0 → (0 = 0 ∧ ((pa (mR S1 908 r) fun a_17 => (∃ (a_18 : Nat), mI S1 912 r = nI a_18 ∧ (∃ (nu_19 : Nat), (mI S1 913 r) + (nI k9) = nI nu_19 ∧ (∃ (n_20 : Nat), nI Q.length = nI n_20 ∧ (∃ (F_21 : Nat → Nat × Nat) (i_22 : Nat) (A_23 : Nat → Nat) (X_24 : GX) (G_25 : Gr) (T_26 : Tr) (H_27 : List Nat) (W_28 : Nat → Nat) (P_29 : List Nat) (ins_30 : Prop) (xn_31 : Nat), (g = A_23 0 ∧ GI S1 F_21 i_22 A_23 X_24 G_25 T_26 H_27 W_28 ∧ RwE S1 X_24 G_25 a_17 P_29 ∧ (F_21 a_17).1 ≠ i_22 ∧ n_20 = P_29.length ∧ a_18 < 256 ∧ nu_19 < 2147483648 ∧ (1 : Int32) = tf ins_30 ∧ (lN (thI s k9).toNat) = lN xn_31 ∧ xn_31 < 4611686018427387904) ∧ 0 ≤ nc_bC G L la s k9 oc ∧ 0 ≤ nc_bZ G L la s k9 oc ∧ (∀ (S_32 : MM), (foP S1 S_32 F_21 i_22 A_23 X_24 G_25 T_26 H_27 P_29 (fltV G_25 a_18 nu_19 xn_31 P_29 ins_30)) → (∃ k1, k1 < 2 ∧ I_be4 r g k9 F cu fnd i A m q p' X G T H L s la TX tp oc S k1 [(8, .inl (nI (fltV G_25 a_18 nu_19 xn_31 P_29 ins_30))), (6, .inr (.inl (lN (thI s k9).toNat))), (5, .inl (nI Q.length)), (3, .inl (chI oc)), (0, .inr (.inr (some r))), (1, .inr (.inr (some g)))] [] S_32 0 0)))))))))))))))
      subst hg
      have hn' : mI S1 913 r + nI k9 = nI (s.2.1 + k9) := by rw [c4.2.1, nI_add]
      have hQd := x4 Q rfl
      have ev : skV G L la s k9 = some Q := by
        unfold beO at hO
        split at hO
        · cases hO
        · exact hO
      have hQl := (skV_all hK0.1 ev).2
      have fk := c1.2.2.2.2.2.2.2.2
      have rwE : RwE S1 X G fnd Q := ⟨fk.2.1, by rw [fk.2.2.1]; exact hQ, by rw [fk.2.2.1]; decide, fun k hk => ⟨hQd.1 k hk (by omega), hQl _ (by rw [List.getD_eq_getElem?_getD, List.getElem?_eq_getElem hk]; exact List.getElem_mem hk)⟩⟩
      have nf : (F fnd).1 ≠ i := by rw [hR.own (Or.inr (Or.inr (Or.inl rfl)))]; exact fun e => hij e.symm
      have tx : (thI s k9).toNat < 4611686018427387904 := by omega
      have fin : ∀ S2, foP S1 S2 F i A X G T H Q (fltV G s.1 (s.2.1 + k9) (thI s k9).toNat Q (oc ≠ none)) → ∃ k1, k1 < 2 ∧ I_be4 r (A 0) k9 F cu fnd i A m q p' X G T H L s la TX tp oc S k1 [(8, .inl (nI (fltV G s.1 (s.2.1 + k9) (thI s k9).toNat Q (oc ≠ none)))), (6, .inr (.inl (lN (thI s k9).toNat))), (5, .inl (nI Q.length)), (3, .inl (chI oc)), (0, .inr (.inr (some r))), (1, .inr (.inr (some (A 0))))] [] S2 0 0 := fun S2 h2 => by
        obtain ⟨W', g1, g2, g3⟩ := h2
        exact ⟨1, by decide, Q, _, S1, W', rfl, hn, hO, hQ, rfl, flt8, ⟨x1, x2, x3, x4⟩, g1, g2, g3, rfl, rfl, rfl, rfl⟩
      rw [show mI S1 917 r = nI s.2.2.2.2.2.2.1 from c4.2.2.2.2.2.1]
      refine ⟨c1.1, c1.1, c1.1, c1.1, fun z => ⟨rfl, pa_i fk.1 ⟨s.1, c4.1, s.2.1 + k9, hn', Q.length, rfl, F, i, A, X, G, T, H, W, Q, oc ≠ none, (thI s k9).toNat, ⟨rfl, c2, rwE, nf, rfl, q1, q2, ?_, rfl, tx⟩, Nat.zero_le _, Nat.zero_le _, fin⟩⟩, fun z => ⟨rfl, pa_i fk.1 ⟨s.1, c4.1, s.2.1 + k9, hn', Q.length, rfl, F, i, A, X, G, T, H, W, Q, oc ≠ none, (thI s k9).toNat, ⟨rfl, c2, rwE, nf, rfl, q1, q2, ?_, rfl, tx⟩, Nat.zero_le _, Nat.zero_le _, fin⟩⟩⟩
      · have kn : s.2.2.2.2.2.2.1 ≠ 0 := fun e => z (by rw [e]; rfl)
        have on : oc = none := q8.elim (fun w => absurd w.1 kn) (fun w => w.2)
        exact (tf_f (fun w => w on)).symm
      · have kz : s.2.2.2.2.2.2.1 = 0 := (nI_eq (b := 0) (by omega) (by decide)).1 z
        obtain ⟨c, oe, oc2, sc⟩ := q8.elim (fun w => w.2) (fun w => absurd kz w.1)
        exact (tf_t (fun w => by rw [oe] at w; cases w)).symm
    · cases hm
      obtain ⟨Q, f, S2, W', rfl, hn, hO, hQ, hf, hf8, hX, g1, g2, g3, rfl, rfl, rfl, rfl⟩ := h
      obtain ⟨hg, hK, hP⟩ := hp
      have hK0 := hK
      obtain ⟨q1, q2, q3, q4, q5, q6, q7, q8⟩ := hP
      have tpl : beT s TX tp ≤ 100000 := by unfold beT; have := wN_le (symAt TX tp); split <;> omega
      obtain ⟨x1, x2, x3, x4⟩ := hX
      obtain ⟨c1, c2, c3, c4, c5, c6, c7, c8, c9, c10⟩ := hK.kp x1
      obtain ⟨⟨hR, hG, hF, hi, hij, hB, hs, hc, h9, hl, hA, hids, h10, hla, hC, hq, hPr⟩, b1, b2, b3, b4, b5, b6⟩ := hK
      have fo2 : FO S1 F := fun b hb => (g2.1 b (c10 b hb)).1
      have hB2 := hK0.go x1 (x2.trans h10) hla x3 tpl (x4 Q rfl).2
      have hB1 := hB2.gi g2 g1 fo2 (fun _ _ => rfl) (Nat.le_refl _) (fun _ _ => rfl)
      have hR1 := hB1.1.1
      have k2 : Keep (fun b => (F b).1 = i ∨ (F b).1 = j) S S1 := (x1.1.mono (fun b _ z => Or.inr (SkW.own hR z))).trN g2 (fun b _ z => Or.inl z)
      have bk : bk2 S S1 r m cu := (bk2.w hR x1).tr (bk2.gi c1 hij g2)
      refine ⟨300, ?_⟩
      show ((¬ (nI f) = 0 → (([] : List MV) = [] ∧ mret (some .int) (sp_rbe r g k9 F j pk cu ids fnd i A X G T H W m d B L s la q p' rw dr TX tp oc) [.inr (.inr (some r)), .inr (.inr (some g)), .inl (nI k9)] S (some (.inl (nI f))) S1 0 0)) ∧ ((nI f) = 0 → (isO S1 9 r ∧ (isO S1 9 r ∧ (0 = 0 ∧ ((pa (mR S1 908 r) fun a_1 => (∃ (a_2 : Nat), mI S1 912 r = nI a_2 ∧ (∃ (n_3 : Nat), nI Q.length = nI n_3 ∧ (∃ (ix_4 : Nat), (lN (thI s k9).toNat).toInt32 = nI ix_4 ∧ (∃ (F_5 : Nat → Nat × Nat) (i_6 : Nat) (A_7 : Nat → Nat) (X_8 : GX) (G_9 : Gr) (T_10 : Tr) (H_11 : List Nat) (W_12 : Nat → Nat) (P_13 : List Nat) (oc_14 : Option Nat) (s_15 : Nat), (g = A_7 0 ∧ enR S1 F_5 i_6 A_7 X_8 G_9 T_10 H_11 W_12 a_1 P_13 a_2 oc_14 ix_4 s_15 ∧ n_3 = P_13.length ∧ (chI oc) = chI oc_14) ∧ 0 + (enC G_9 s_15) ≤ nc_bC G L la s k9 oc ∧ 0 + (enZ G_9 s_15) ≤ nc_bZ G L la s k9 oc ∧ (∀ (S_16 : MM), (enQ S1 S_16 F_5 i_6 A_7 X_8 G_9 T_10 a_2 P_13 oc_14 ix_4 s_15) → (0 = 0 ∧ (∃ (tk_17 d_18 c_19 : Nat) (L_20 : List Nat), (isO S_16 6 g ∧ mR S_16 601 g = some tk_17 ∧ AL S_16 tk_17 d_18 c_19 5 L_20) ∧ 0 + (enC G_9 s_15) ≤ nc_bC G L la s k9 oc ∧ 0 + (enZ G_9 s_15) ≤ nc_bZ G L la s k9 oc ∧ ((True ∧ (isO S_16 9 r ∧ (([] : List MV) = [] ∧ mret (some .int) (sp_rbe r g k9 F j pk cu ids fnd i A X G T H W m d B L s la q p' rw dr TX tp oc) [.inr (.inr (some r)), .inr (.inr (some g)), .inl (nI k9)] S (some (.inl (nI f))) (sR S_16 910 r (L_20.getLast?)) (0 + (enC G_9 s_15)) (0 + (enZ G_9 s_15))))))))))))))))))))
      refine ⟨fun z => ⟨rfl, trivial, ⟨nI f, rfl, F, A, X, G, T, H, W', la, f, rfl, hf8, Or.inr ⟨hn, Or.inr ⟨Q, hO, Or.inr ⟨hQ, hf, Or.inl ⟨fun e => z (by rw [e]; rfl), rfl, rfl⟩⟩⟩⟩, g1, fo2, hR1, fun _ _ => rfl, k2, bk, fun _ _ _ _ _ => rfl, fun _ _ => rfl, fun e => absurd (by rw [e]; rfl) z⟩, Nat.zero_le _, Nat.zero_le _⟩, fun z => ?_⟩
      subst hg
      have f0 : f = 0 := (nI_eq (b := 0) (by omega) (by decide)).1 z
      have hz : fltV G s.1 (s.2.1 + k9) (thI s k9).toNat Q (oc ≠ none) = 0 := hf.symm.trans f0
      have ev : skV G L la s k9 = some Q := by
        unfold beO at hO
        split at hO
        · cases hO
        · exact hO
      have nl : ¬ (agE G s.1).length < s.2.1 + k9 := fun w => by rw [show beO G L la s k9 = none from if_pos w] at hO; cases hO
      have ne : s.2.1 + k9 = (agE G s.1).length := by
        have h1 : (agE G s.1)[s.2.1 + k9]? = none := hn
        have := List.getElem?_eq_none_iff.mp h1
        omega
      have hQl := (skV_all hK0.1 ev).2
      have hx := (flt0 hz).2.2.1
      have hx2 : (thI s k9).toNat ≤ 8192 := by
        have := c1_le G (G.jn Q) G.n
        have := c2.ok.hn
        omega
      have hen : EnP G s.1 Q oc (thI s k9).toNat (slt G s.1) := flt_enp c2.ok hz ne q1 hQ hQl (fun c hc9 => by
        rcases q8 with ⟨_, c', e1, e2, _⟩ | ⟨_, e1⟩
        · rw [e1] at hc9; injection hc9 with hc9; omega
        · rw [e1] at hc9; cases hc9)
      have fk := hR1.2.2.2.2.2.2.2.2
      have nf : (F fnd).1 ≠ i := by rw [hR.own (Or.inr (Or.inr (Or.inl rfl)))]; exact fun e => hij e.symm
      have fk2 := c1.2.2.2.2.2.2.2.2
      have ef : eR S1 fnd = eR S2 fnd := (g2.2.1 fnd fk2.2.1.1 nf).2.2.2.2.2
      have rwE : RwE S1 X G fnd Q := ⟨fk.2.1, by rw [fk.2.2.1]; exact hQ, by rw [fk.2.2.1]; decide, fun k hk => ⟨by rw [ef]; exact (x4 Q rfl).1 k hk (by omega), hQl _ (by rw [List.getD_eq_getElem?_getD, List.getElem?_eq_getElem hk]; exact List.getElem_mem hk)⟩⟩
      have hN : beN G L la s k9 oc := ⟨hn, Q, hO, hQ, hz⟩
      have cC : nc_bC G L la s k9 oc = enC G (slt G s.1) := ift_t hN
      have cZ : nc_bZ G L la s k9 oc = enZ G (slt G s.1) := ift_t hN
      have i32 : (lN (thI s k9).toNat).toInt32 = nI (thI s k9).toNat := lN_32 (by omega)
      rw [cC, cZ]
      refine ⟨hR1.1, hR1.1, rfl, pa_i fk.1 ⟨s.1, hB1.1.2.2.2.2.2.2.1.1, Q.length, rfl, (thI s k9).toNat, i32, F, i, A, X, G, T, H, W', Q, oc, slt G s.1, ⟨rfl, ⟨g1, fo2, hi, rwE, nf, g3 f0, hen⟩, rfl, rfl⟩, Nat.le_of_eq (Nat.zero_add _), Nat.le_of_eq (Nat.zero_add _), fun S3 h3 => ?_⟩⟩
      obtain ⟨F', A', X', G', T', H', W3, e1, e2, e3, e4, e5, e6, e7, e8⟩ := h3
      have a0 : A' 0 = A 0 := e6 0 (by decide) (by decide) (by decide) (by decide)
      have gn := e5.cnt1
      have hB3 := hB1.gi e4 e1 e2 e3 (by omega) e7
      have t2 := e1 2
      have gl : ((List.range G'.n).map X'.ad).getLast? = some (X'.ad G.n) := by
        rw [gn, List.range_succ, List.map_append, List.map_singleton, List.getLast?_concat]
      refine ⟨rfl, A' 2, A' 3, capF G'.n, (List.range G'.n).map X'.ad, ⟨a0 ▸ (e1 0).1, a0 ▸ t2.1, t2.2.2.2⟩, Nat.le_of_eq (Nat.zero_add _), Nat.le_of_eq (Nat.zero_add _), trivial, hB3.1.1.1, rfl, trivial, ?_⟩
      rw [gl]
      have y1 : RW (SkW cu fnd) [910, 911] r S3 (sR S3 910 r (some (X'.ad G.n))) := RW.rf.wR (by decide)
      have hB4 := hB3.go y1 (la' := some G.n) (tp' := beT s TX tp) (by rw [mR_sR, if_pos ⟨rfl, rfl⟩]; rfl) (fun e' he' => by injection he' with he'; omega) hB3.2.2.2.2.1 tpl (hB3.1.2.2.2.2.2.2.2.2.2.2.2.2.2.2.1.keep (Keep.sR (P := fun b => b = r) Keep.rf rfl) (fun e => hR.cr (a := 3) (by decide) e.symm))
      refine ⟨⟨nI f, rfl, F', A', X', G', T', H', W3, some G.n, f, rfl, hf8, Or.inr ⟨hn, Or.inr ⟨Q, hO, Or.inr ⟨hQ, hf, Or.inr ⟨f0, e5, rfl⟩⟩⟩⟩, hB4.1.2.1, hB4.1.2.2.1, hB4.1.1, fun b hb => e3 b (k2.1 b hb).1, ?_, (bk.tr (bk2.gi hR1 hij e4)).tr (bk2.w hB3.1.1 y1), e6, e7, fun _ => hB4⟩, ?_, ?_⟩
      · refine Keep.sR (P := fun b => (F b).1 = i ∨ (F b).1 = j) (k2.trN e4 (fun b hb z => Or.inl z)) (Or.inr (hR.own (Or.inl rfl)))
      · show 0 + enC G (slt G s.1) ≤ nc_bC G L la s k9 oc
        rw [cC, Nat.zero_add]; exact Nat.le_refl _
      · show 0 + enZ G (slt G s.1) ≤ nc_bZ G L la s k9 oc
        rw [cZ, Nat.zero_add]; exact Nat.le_refl _
theorem u_rbe (l : Launch) : Us l yX8_bringEvent cX8_bringEvent 9 (some .int) 8 195 9 T_rbe := by
  intro Rc Rs av S cs sl K Kx h
  unfold T_rbe at h
  split at h
  · rename_i r_o g_o k9_v
    obtain ⟨r, rfl, h_1⟩ := pa_of h
    obtain ⟨g, rfl, h_2⟩ := pa_of h_1
    obtain ⟨k9, rfl, h_3⟩ := h_2
    obtain ⟨F, j, pk, cu, ids, fnd, i, A, X, G, T, H, W, m, d, B, L, s, la, q, p', rw, dr, TX, tp, oc, hp, hc, hs, hk⟩ := h_3
    refine ⟨(sp_rbe r g k9 F j pk cu ids fnd i A X G T H W m d B L s la q p' rw dr TX tp oc), c_rbe l r g k9 F j pk cu ids fnd i A X G T H W m d B L s la q p' rw dr TX tp oc, fun _ _ h9 => ⟨_, _, h9.1, h9.2.2.1.1.1.1⟩, ⟨rfl, hp⟩, hc, hs, fun v9 S' h8 => by
      obtain ⟨v8, h7, h8⟩ := h8
      cases h7
      exact hk _ _ h8, fun _ _ q => q.elim⟩
  · exact h.elim
