/-! ===== THE WHOLE OBJECT IN THE MEMORY ===== -/
/-- what an object stands for: graphs, trees, edits, known counts; tape; slots; fault, foreign; marks; view; hunks; anchors -/
abbrev Ab : Type := (Nat → Gr) × (Nat → Tr) × (Nat → List (Nat × Nat)) × (Nat → Nat → Nat → Nat) × List Nat × (Nat → List Nat) × Nat × Nat × (Nat → Option Nat) × (Nat → Nat) × List Int32 × List (Nat × Nat × Nat × Nat) × (Nat → Option Nat) × (Nat → Option Nat)
def Ab.G (Q : Ab) : Nat → Gr := Q.1
def Ab.T (Q : Ab) : Nat → Tr := Q.2.1
def Ab.E (Q : Ab) : Nat → List (Nat × Nat) := Q.2.2.1
def Ab.Kn (Q : Ab) : Nat → Nat → Nat → Nat := Q.2.2.2.1
def Ab.tp (Q : Ab) : List Nat := Q.2.2.2.2.1
def Ab.sl (Q : Ab) : Nat → List Nat := Q.2.2.2.2.2.1
def Ab.ft (Q : Ab) : Nat := Q.2.2.2.2.2.2.1
def Ab.fo (Q : Ab) : Nat := Q.2.2.2.2.2.2.2.1
def Ab.mp (Q : Ab) : Nat → Option Nat := Q.2.2.2.2.2.2.2.2.1
def Ab.ms (Q : Ab) : Nat → Nat := Q.2.2.2.2.2.2.2.2.2.1
def Ab.vw (Q : Ab) : List Int32 := Q.2.2.2.2.2.2.2.2.2.2.1
def Ab.hu (Q : Ab) : List (Nat × Nat × Nat × Nat) := Q.2.2.2.2.2.2.2.2.2.2.2.1
def Ab.ap (Q : Ab) : Nat → Option Nat := Q.2.2.2.2.2.2.2.2.2.2.2.2.1
def Ab.an (Q : Ab) : Nat → Option Nat := Q.2.2.2.2.2.2.2.2.2.2.2.2.2
/-- a peer -/
def Pe (S : MM) (F : Nat → Nat × Nat) (p b : Nat) (A : Nat → Nat) (X : GX) (G : Gr) (T : Tr) (H : List Nat) (W : Nat → Nat) (r a d c : Nat) (E : List (Nat × Nat)) (ea : Nat → Nat) (kn : Nat) (kr : Nat → Nat) (Kn : Nat → Nat → Nat) (cu : Nat) : Prop := WrR S F (p + 1) (p + 11) b r p A X G T H W ∧ mR S 1102 b = some a ∧ EdL S F (p + 11) a d c E ea ∧ KnR S b kn kr Kn ∧ mR S 1105 b = some cu ∧ isO S 3 cu ∧ F kn = (p + 31, 6) ∧ (∀ o, o < 4 → F (kr o) = (p + 31, 10 + o)) ∧ F cu = (p + 31, 4)
def PeX (S : MM) (F : Nat → Nat × Nat) (p b : Nat) (X : GX) (G : Gr) (T : Tr) (E : List (Nat × Nat)) (Kn : Nat → Nat → Nat) (c : Nat) : Prop := ∃ A H W r a d ea kn kr cu, Pe S F p b A X G T H W r a d c E ea kn kr Kn cu
/-- bytes -/
def Bt (S : MM) (F : Nat → Nat × Nat) (j a d : Nat) (B : List Nat) (n : Nat) : Prop := By S a d B ∧ F a = (j, 1) ∧ F d = (j, 2) ∧ mN S d = n
/-- the object itself: z 0 tape, 1 wire, 2 row of slots, 3 row of peers, 4 writer, 5 reader, 6 packer, 8 marked peers, 9 marked sizes, 10 the view's row, 12 hunks, 13 anchored peers, 14 anchored nodes, 20 + k slots, 30 + p peers -/
def SfA (S : MM) (F : Nat → Nat × Nat) (t : Nat) (z : Nat → Nat) : Prop := isO S 12 t ∧ F t = (20, 1) ∧ (∀ k, k < 15 → k ≠ 6 → k ≠ 7 → k ≠ 11 → mR S (1200 + k) t = some (z k)) ∧ (isO S 22 (z 2) ∧ mN S (z 2) = 8 ∧ F (z 2) = (20, 2) ∧ ∀ k, k < 8 → eR S (z 2) k = some (z (20 + k))) ∧ (isO S 24 (z 3) ∧ mN S (z 3) = 4 ∧ F (z 3) = (20, 3) ∧ ∀ p, p < 4 → eR S (z 3) p = some (z (30 + p)))
def SfB (S : MM) (F : Nat → Nat × Nat) (t : Nat) (z : Nat → Nat) (ft fo : Nat) (mp : Nat → Option Nat) (ms : Nat → Nat) : Prop := mI S 1206 t = nI ft ∧ ft < 8 ∧ mI S 1207 t = nI fo ∧ fo < 2 ∧ (isO S 17 (z 8) ∧ mN S (z 8) = 8 ∧ F (z 8) = (20, 4) ∧ ∀ b, b < 8 → eI S (z 8) b = stI (mp b)) ∧ (isO S 17 (z 9) ∧ mN S (z 9) = 8 ∧ F (z 9) = (20, 5) ∧ ∀ b, b < 8 → mp b ≠ none → eI S (z 9) b = nI (ms b)) ∧ ∀ b, b < 8 → ∀ p, mp b = some p → p < 4
def SfV (S : MM) (F : Nat → Nat × Nat) (t : Nat) (z : Nat → Nat) (vw : List Int32) (n : Nat) : Prop := mI S 1211 t = nI vw.length ∧ isO S 17 (z 10) ∧ mN S (z 10) = n ∧ F (z 10) = (20, 6) ∧ vw.length ≤ n ∧ 64 ≤ n ∧ n ≤ 1048576 ∧ ∀ k, k < vw.length → eI S (z 10) k = vw.getD k 0
def SfN (S : MM) (F : Nat → Nat × Nat) (z : Nat → Nat) (X : Nat → GX) (G : Nat → Gr) (ap : Nat → Option Nat) (an : Nat → Option Nat) : Prop := (isO S 17 (z 13) ∧ mN S (z 13) = 8 ∧ F (z 13) = (20, 7) ∧ ∀ a, a < 8 → eI S (z 13) a = stI (ap a)) ∧ (isO S 23 (z 14) ∧ mN S (z 14) = 8 ∧ F (z 14) = (20, 8) ∧ ∀ a, a < 8 → ∀ p, ap a = some p → eR S (z 14) a = (an a).map (X p).ad) ∧ ∀ a, a < 8 → ∀ p, ap a = some p → p < 4 ∧ ∀ k, an a = some k → k < (G p).n
def Sf (S : MM) (F : Nat → Nat × Nat) (t : Nat) (z : Nat → Nat) (X : Nat → GX) (K : Nat → Nat) (Q : Ab) : Prop := SfA S F t z ∧ SfB S F t z Q.ft Q.fo Q.mp Q.ms ∧ SfV S F t z Q.vw (K 10) ∧ SfN S F z X Q.G Q.ap Q.an
/-- the writer with its packer, the reader -/
def Wk (S : MM) (F : Nat → Nat × Nat) (w pk : Nat) (K : Nat → Nat) : Prop := ∃ pl me a d V cap, PW0 S F 23 w pk pl me a d V cap ∧ (∀ k, k < 6 → mN S (d k) = K (40 + k)) ∧ mN S (a 7) = K 50
def Rk (S : MM) (F : Nat → Nat × Nat) (r pk : Nat) : Prop := ∃ cu ids fnd, RD S F 24 r pk cu ids fnd
/-- WeaveText t stands for Q: X tells where the events are, K the rows' sizes -/
def WTz (S : MM) (F : Nat → Nat × Nat) (t : Nat) (z : Nat → Nat) (X : Nat → GX) (K : Nat → Nat) (Q : Ab) : Prop := Sf S F t z X K Q ∧ (∀ p, p < 4 → PeX S F p (z (30 + p)) (X p) (Q.G p) (Q.T p) (Q.E p) (Q.Kn p) (K (30 + p))) ∧ (∃ d, Bt S F 21 (z 0) d Q.tp (K 0)) ∧ (∃ d B, Bt S F 22 (z 1) d B (K 1)) ∧ (∀ k, k < 8 → ∃ d, Bt S F (50 + k) (z (20 + k)) d (Q.sl k) (K (20 + k))) ∧ Wk S F (z 4) (z 6) K ∧ Rk S F (z 5) (z 6) ∧ (∃ r f0 s0, HuR S F 25 (z 12) r (K 12) Q.hu f0 s0 0 0 ∧ K 12 ≤ 32768) ∧ FO S F
def WT (S : MM) (F : Nat → Nat × Nat) (t : Nat) (X : Nat → GX) (K : Nat → Nat) (Q : Ab) : Prop := ∃ z, WTz S F t z X K Q
section WTK
variable {S S' : MM} {F F' : Nat → Nat × Nat} {t : Nat} {z : Nat → Nat} {X : Nat → GX} {K : Nat → Nat} {Q : Ab} {P : Nat → Prop}
theorem Pe.keep {p b : Nat} {A : Nat → Nat} {X : GX} {G : Gr} {T : Tr} {H : List Nat} {W : Nat → Nat} {r a d c : Nat} {E : List (Nat × Nat)} {ea : Nat → Nat} {kn : Nat} {kr : Nat → Nat} {Kn : Nat → Nat → Nat} {cu : Nat} (h : Pe S F p b A X G T H W r a d c E ea kn kr Kn cu) (hk : Keep P S S') (hP : ∀ b, (F b).1 = p + 1 ∨ (F b).1 = p + 11 ∨ (F b).1 = p + 31 → ¬ P b) (hf : ∀ b, b ∈ mL S → F' b = F b) (hFO : FO S' F') : Pe S' F' p b A X G T H W r a d c E ea kn kr Kn cu := by
  obtain ⟨⟨w1, w2, w3, w4, w5, w6, w7, w8, w9, w10, w11, w12, w13⟩, h2, h3, h4, h5, h6, h7, h8, h9⟩ := h
  have q : ∀ {b x}, F b = (p + 11, x) → ¬ P b := fun {b x} e => hP b (Or.inr (Or.inl (by rw [e])))
  have q3 : ∀ {b x}, F b = (p + 31, x) → ¬ P b := fun {b x} e => hP b (Or.inr (Or.inr (by rw [e])))
  have kb := hk.2.1 b w1.1 (q w2)
  refine ⟨⟨hk.isO w1, (hf b w1.1).trans w2, (kb.1 _).trans w3, (kb.2.1 _).trans w4, (kb.2.1 _).trans w5, hk.isO w6, (hk.1 r w6.1).2.2.trans w7, (hf r w6.1).trans w8, w9.keep hk (fun b e => hP b (Or.inl e)) w10 w11 hf, hFO, w11, w12, w13⟩, (kb.2.1 _).trans h2, h3.keep hk (q h3.2.1) (fun e => q (h3.2.2.1 e)) (fun l hl => q (h3.2.2.2 l hl).2.1) hf, h4.keep w1.1 hk (q w2) (q3 h7) (fun o ho => q3 (h8 o ho)), (kb.2.1 _).trans h5, hk.isO h6, (hf kn h4.2.1.1).trans h7, fun o ho => (hf _ (h4.2.2.2 o ho).2.1.1).trans (h8 o ho), (hf cu h6.1).trans h9⟩
theorem Bt.keep {j a d : Nat} {B : List Nat} {n : Nat} (h : Bt S F j a d B n) (hk : Keep P S S') (hP : ∀ b, (F b).1 = j → ¬ P b) (hf : ∀ b, b ∈ mL S → F' b = F b) : Bt S' F' j a d B n := ⟨h.1.keep hk (hP a (by rw [h.2.1])) (hP d (by rw [h.2.2.1])), (hf a h.1.1.1).trans h.2.1, (hf d h.1.2.2.1.1).trans h.2.2.1, (hk.1 d h.1.2.2.1.1).2.2.trans h.2.2.2⟩
theorem row_keep {k r n : Nat} {c : Nat × Nat} (h1 : isO S k r) (h2 : mN S r = n) (h3 : F r = c) (hk : Keep P S S') (hf : ∀ b, b ∈ mL S → F' b = F b) : isO S' k r ∧ mN S' r = n ∧ F' r = c := ⟨hk.isO h1, (hk.1 r h1.1).2.2.trans h2, (hf r h1.1).trans h3⟩
theorem SfA.keep (h : SfA S F t z) (hk : Keep P S S') (hP : ∀ b, (F b).1 = 20 → ¬ P b) (hf : ∀ b, b ∈ mL S → F' b = F b) : SfA S' F' t z := by
  obtain ⟨h1, h2, h3, ⟨a1, a2, a3, a4⟩, ⟨b1, b2, b3, b4⟩⟩ := h
  have q : ∀ {b x}, F b = (20, x) → ¬ P b := fun {b x} e => hP b (by rw [e])
  have ra := row_keep a1 a2 a3 hk hf
  have rb := row_keep b1 b2 b3 hk hf
  exact ⟨hk.isO h1, (hf t h1.1).trans h2, fun k k1 k2 k3 k4 => ((hk.2.1 t h1.1 (q h2)).2.1 _).trans (h3 k k1 k2 k3 k4), ⟨ra.1, ra.2.1, ra.2.2, fun k hk9 => by rw [(hk.2.1 _ a1.1 (q a3)).2.2.2.2.2]; exact a4 k hk9⟩, ⟨rb.1, rb.2.1, rb.2.2, fun k hk9 => by rw [(hk.2.1 _ b1.1 (q b3)).2.2.2.2.2]; exact b4 k hk9⟩⟩
theorem SfB.keep {ft fo : Nat} {mp : Nat → Option Nat} {ms : Nat → Nat} (h : SfB S F t z ft fo mp ms) (ht : isO S 12 t) (hk : Keep P S S') (h0 : F t = (20, 1)) (hP : ∀ b, (F b).1 = 20 → ¬ P b) (hf : ∀ b, b ∈ mL S → F' b = F b) : SfB S' F' t z ft fo mp ms := by
  obtain ⟨h1, h2, h3, h4, ⟨a1, a2, a3, a4⟩, ⟨b1, b2, b3, b4⟩, h5⟩ := h
  have q : ∀ {b x}, F b = (20, x) → ¬ P b := fun {b x} e => hP b (by rw [e])
  have ra := row_keep a1 a2 a3 hk hf
  have rb := row_keep b1 b2 b3 hk hf
  have kt := (hk.2.1 t ht.1 (q h0)).1
  exact ⟨(kt _).trans h1, h2, (kt _).trans h3, h4, ⟨ra.1, ra.2.1, ra.2.2, fun k hk9 => by rw [(hk.2.1 _ a1.1 (q a3)).2.2.2.1]; exact a4 k hk9⟩, ⟨rb.1, rb.2.1, rb.2.2, fun k hk9 hn => by rw [(hk.2.1 _ b1.1 (q b3)).2.2.2.1]; exact b4 k hk9 hn⟩, h5⟩
theorem SfV.keep {vw : List Int32} {n : Nat} (h : SfV S F t z vw n) (ht : isO S 12 t) (h0 : F t = (20, 1)) (hk : Keep P S S') (hP : ∀ b, (F b).1 = 20 → ¬ P b) (hf : ∀ b, b ∈ mL S → F' b = F b) : SfV S' F' t z vw n := by
  obtain ⟨h1, a1, a2, a3, h2, h3, h4, a4⟩ := h
  have q : ∀ {b x}, F b = (20, x) → ¬ P b := fun {b x} e => hP b (by rw [e])
  have ra := row_keep a1 a2 a3 hk hf
  exact ⟨((hk.2.1 t ht.1 (q h0)).1 _).trans h1, ra.1, ra.2.1, ra.2.2, h2, h3, h4, fun k hk9 => by rw [(hk.2.1 _ a1.1 (q a3)).2.2.2.1]; exact a4 k hk9⟩
theorem SfN.keep {X' : Nat → GX} {G G' : Nat → Gr} {ap an : Nat → Option Nat} (h : SfN S F z X G ap an) (hk : Keep P S S') (hP : ∀ b, (F b).1 = 20 → ¬ P b) (hf : ∀ b, b ∈ mL S → F' b = F b) (hX : ∀ p, p < 4 → (G p).n ≤ (G' p).n ∧ ∀ k, k < (G p).n → (X' p).ad k = (X p).ad k) : SfN S' F' z X' G' ap an := by
  obtain ⟨⟨a1, a2, a3, a4⟩, ⟨b1, b2, b3, b4⟩, h5⟩ := h
  have q : ∀ {b x}, F b = (20, x) → ¬ P b := fun {b x} e => hP b (by rw [e])
  have ra := row_keep a1 a2 a3 hk hf
  have rb := row_keep b1 b2 b3 hk hf
  refine ⟨⟨ra.1, ra.2.1, ra.2.2, fun k hk9 => by rw [(hk.2.1 _ a1.1 (q a3)).2.2.2.1]; exact a4 k hk9⟩, ⟨rb.1, rb.2.1, rb.2.2, fun k hk9 p hp => ?_⟩, fun a ha p hp => ⟨(h5 a ha p hp).1, fun k hk9 => Nat.lt_of_lt_of_le ((h5 a ha p hp).2 k hk9) (hX p (h5 a ha p hp).1).1⟩⟩
  rw [(hk.2.1 _ b1.1 (q b3)).2.2.2.2.2, b4 k hk9 p hp]
  cases e : an k with
  | none => rfl
  | some j => show some _ = some _; rw [(hX p (h5 k hk9 p hp).1).2 j ((h5 k hk9 p hp).2 j e)]
theorem PW0.keep {j w pk pl me : Nat} {a d : Nat → Nat} {V : Nat → List Int32} {cap : Nat → Nat} (h : PW0 S F j w pk pl me a d V cap) (hk : Keep P S S') (hP : ∀ b, (F b).1 = j → ¬ P b) (hf : ∀ b, b ∈ mL S → F' b = F b) (hFO : FO S' F') : PW0 S' F' j w pk pl me a d V cap := by
  obtain ⟨f1, f2, f3, f4, ⟨m1, m2, m3, m4, m5, m6, m7, m8⟩, h1, h2, h3, h4, h5, h6, h7, h8⟩ := h
  have q : ∀ {b x}, F b = (j, x) → ¬ P b := fun {b x} e => hP b (by rw [e])
  have kw := (hk.2.1 w m1.1 (q f1)).2.1
  refine ⟨(hf w m1.1).trans f1, (hf pl m3.1).trans f2, (hf me m6.1).trans f3, (hf pk h3.1).trans f4, ⟨hk.isO m1, (kw _).trans m2, hk.isO m3, (hk.1 pl m3.1).2.2.trans m4, (kw _).trans m5, hk.isO m6, (hk.1 me m6.1).2.2.trans m7, m8⟩, fun k hk9 => (kw _).trans (h1 k hk9), (kw _).trans h2, hk.isO h3, ((hk.2.1 pk h3.1 (q f4)).2.1 _).trans h4, fun k hk9 => (h5 k hk9).keep hk (q (h5 k hk9).2.1) (q (h5 k hk9).2.2.1) hf, hFO, h7, h8.keep hk (q f4) hf⟩
theorem RD.kp {j r pk : Nat} {cu : Nat → Nat} {ids fnd : Nat} (h : RD S F j r pk cu ids fnd) (hk : Keep P S S') (hP : ∀ b, (F b).1 = j → ¬ P b) (hf : ∀ b, b ∈ mL S → F' b = F b) : RD S' F' j r pk cu ids fnd := by
  obtain ⟨h1, h2, h3, h4, h5, h6, h7, h8, h9, h10, h11, h12, h13⟩ := h
  have kw := (hk.2.1 r h1.1 (hP r (by rw [h2]))).2.1
  exact ⟨hk.isO h1, (hf r h1.1).trans h2, (kw _).trans h3, fun k hk9 => ⟨(kw _).trans (h4 k hk9).1, hk.isO (h4 k hk9).2.1, (hf _ (h4 k hk9).2.1.1).trans (h4 k hk9).2.2⟩, (kw _).trans h5, hk.isO h6, (hk.1 ids h6.1).2.2.trans h7, (hf ids h6.1).trans h8, (kw _).trans h9, hk.isO h10, (hk.1 fnd h10.1).2.2.trans h11, (hf fnd h10.1).trans h12, h13⟩
theorem HuR.kp {j h r N : Nat} {Q : List (Nat × Nat × Nat × Nat)} {fi si de ie : Nat} (hh : HuR S F j h r N Q fi si de ie) (hk : Keep P S S') (hP : ∀ b, (F b).1 = j → ¬ P b) (hf : ∀ b, b ∈ mL S → F' b = F b) (hFO : FO S' F') : HuR S' F' j h r N Q fi si de ie := by
  obtain ⟨h1, h2, h3, h4, h5, h6, h7, h8, h9, h10, h11, h12, h13, h14, h15, h16, h17, h18⟩ := hh
  have kw := hk.2.1 h h1.1 (hP h (by rw [h2]))
  have kr := (hk.2.1 r h4.1 (hP r (by rw [h5]))).2.2.2.1
  exact ⟨hk.isO h1, (hf h h1.1).trans h2, (kw.2.1 _).trans h3, hk.isO h4, (hf r h4.1).trans h5, (hk.1 r h4.1).2.2.trans h6, h7, h8, h9, h10, (kw.1 _).trans h11, (kw.1 _).trans h12, (kw.1 _).trans h13, (kw.1 _).trans h14, (kw.1 _).trans h15, fun k hk9 => by rw [kr]; exact h16 k hk9, hFO, h18⟩
end WTK
section WTM
variable {S S' : MM} {F F' : Nat → Nat × Nat} {t : Nat} {z : Nat → Nat} {X X' : Nat → GX} {K K' : Nat → Nat} {Q Q' : Ab} {O : Nat → Prop}
theorem Sf.kp (h : Sf S F t z X K Q) (hk : Keep (fun b => O (F b).1) S S') (hO : ¬ O 20) (hf : ∀ b, b ∈ mL S → F' b = F b) (hX : ∀ p, p < 4 → (Q.G p).n ≤ (Q'.G p).n ∧ ∀ k, k < (Q.G p).n → (X' p).ad k = (X p).ad k) (e1 : Q'.ft = Q.ft) (e2 : Q'.fo = Q.fo) (e3 : Q'.mp = Q.mp) (e4 : Q'.ms = Q.ms) (e5 : Q'.vw = Q.vw) (e6 : Q'.ap = Q.ap) (e7 : Q'.an = Q.an) (e8 : K' 10 = K 10) : Sf S' F' t z X' K' Q' := by
  obtain ⟨h1, h2, h3, h4⟩ := h
  have q : ∀ b, (F b).1 = 20 → ¬ O (F b).1 := fun b e => by rw [e]; exact hO
  unfold Sf
  rw [e1, e2, e3, e4, e5, e6, e7, e8]
  exact ⟨h1.keep hk q hf, h2.keep h1.1 hk h1.2.1 q hf, h3.keep h1.1 h1.2.1 hk q hf, h4.keep hk q hf hX⟩
theorem WTz.mv (h : WTz S F t z X K Q) (hk : Keep (fun b => O (F b).1) S S') (hf : ∀ b, b ∈ mL S → F' b = F b) (hFO : FO S' F') (h1 : Sf S' F' t z X' K' Q')
    (h2 : ∀ p, p < 4 → PeX S' F' p (z (30 + p)) (X' p) (Q'.G p) (Q'.T p) (Q'.E p) (Q'.Kn p) (K' (30 + p)) ∨ (¬ O (p + 1) ∧ ¬ O (p + 11) ∧ ¬ O (p + 31) ∧ X' p = X p ∧ Q'.G p = Q.G p ∧ Q'.T p = Q.T p ∧ Q'.E p = Q.E p ∧ Q'.Kn p = Q.Kn p ∧ K' (30 + p) = K (30 + p)))
    (h3 : (∃ d, Bt S' F' 21 (z 0) d Q'.tp (K' 0)) ∨ (¬ O 21 ∧ Q'.tp = Q.tp ∧ K' 0 = K 0))
    (h4 : (∃ d B, Bt S' F' 22 (z 1) d B (K' 1)) ∨ (¬ O 22 ∧ K' 1 = K 1))
    (h5 : ∀ k, k < 8 → (∃ d, Bt S' F' (50 + k) (z (20 + k)) d (Q'.sl k) (K' (20 + k))) ∨ (¬ O (50 + k) ∧ Q'.sl k = Q.sl k ∧ K' (20 + k) = K (20 + k)))
    (h6 : Wk S' F' (z 4) (z 6) K' ∨ (¬ O 23 ∧ ∀ k, 40 ≤ k → k ≤ 50 → K' k = K k))
    (h7 : Rk S' F' (z 5) (z 6) ∨ ¬ O 24)
    (h8 : (∃ r f0 s0, HuR S' F' 25 (z 12) r (K' 12) Q'.hu f0 s0 0 0 ∧ K' 12 ≤ 32768) ∨ (¬ O 25 ∧ Q'.hu = Q.hu ∧ K' 12 = K 12)) : WTz S' F' t z X' K' Q' := by
  obtain ⟨g1, g2, g3, g4, g5, g6, g7, g8, g9⟩ := h
  refine ⟨h1, fun p hp => ?_, ?_, ?_, fun k hk9 => ?_, ?_, ?_, ?_, hFO⟩
  · rcases h2 p hp with w | ⟨w1, w2, w9, w3, w4, w5, w6, w7, w8⟩
    · exact w
    · rw [w3, w4, w5, w6, w7, w8]
      obtain ⟨A, H, W, r, a, d, ea, kn, kr, cu, hp9⟩ := g2 p hp
      exact ⟨A, H, W, r, a, d, ea, kn, kr, cu, hp9.keep hk (fun b e => by rcases e with e | e | e <;> rw [e] <;> assumption) hf hFO⟩
  · rcases h3 with w | ⟨w1, w2, w3⟩
    · exact w
    · obtain ⟨d, hd⟩ := g3
      exact ⟨d, by rw [w2, w3]; exact hd.keep hk (fun b e => by rw [e]; exact w1) hf⟩
  · rcases h4 with w | ⟨w1, w2⟩
    · exact w
    · obtain ⟨d, B, hd⟩ := g4
      exact ⟨d, B, by rw [w2]; exact hd.keep hk (fun b e => by rw [e]; exact w1) hf⟩
  · rcases h5 k hk9 with w | ⟨w1, w2, w3⟩
    · exact w
    · obtain ⟨d, hd⟩ := g5 k hk9
      exact ⟨d, by rw [w2, w3]; exact hd.keep hk (fun b e => by rw [e]; exact w1) hf⟩
  · rcases h6 with w | ⟨w1, w2⟩
    · exact w
    · obtain ⟨pl, me, a, d, V, cap, hp, hn, ho⟩ := g6
      have q : ∀ b, (F b).1 = 23 → ¬ O (F b).1 := fun b e => by rw [e]; exact w1
      refine ⟨pl, me, a, d, V, cap, hp.keep hk q hf hFO, fun k hk9 => ?_, ?_⟩
      · rw [w2 _ (by omega) (by omega), ← hn k hk9]
        exact (hk.1 (d k) (hp.2.2.2.2.2.2.2.2.2.1 k hk9).1.2.2.1.1).2.2
      · rw [w2 _ (by omega) (by omega), ← ho]
        exact (hk.1 (a 7) hp.2.2.2.2.2.2.2.2.2.2.2.2.1.2.2.2.2.2.2.1.1).2.2
  · rcases h7 with w | w
    · exact w
    · obtain ⟨cu, ids, fnd, hr⟩ := g7
      exact ⟨cu, ids, fnd, hr.kp hk (fun b e => by rw [e]; exact w) hf⟩
  · rcases h8 with w | ⟨w1, w2, w3⟩
    · exact w
    · obtain ⟨r, f0, s0, hu, h32⟩ := g8
      exact ⟨r, f0, s0, by rw [w2, w3]; exact ⟨hu.kp hk (fun b e => by rw [e]; exact w1) hf hFO, h32⟩⟩
end WTM
/-- the state with one thing set -/
def Ab.sTp (Q : Ab) (B : List Nat) : Ab := (Q.1, Q.2.1, Q.2.2.1, Q.2.2.2.1, B, Q.2.2.2.2.2)
def Ab.sSl (Q : Ab) (s : Nat → List Nat) : Ab := (Q.1, Q.2.1, Q.2.2.1, Q.2.2.2.1, Q.2.2.2.2.1, s, Q.2.2.2.2.2.2)
def Ab.sFt (Q : Ab) (f : Nat) : Ab := (Q.1, Q.2.1, Q.2.2.1, Q.2.2.2.1, Q.2.2.2.2.1, Q.2.2.2.2.2.1, f, Q.2.2.2.2.2.2.2)
def Ab.sFo (Q : Ab) (f : Nat) : Ab := (Q.1, Q.2.1, Q.2.2.1, Q.2.2.2.1, Q.2.2.2.2.1, Q.2.2.2.2.2.1, Q.2.2.2.2.2.2.1, f, Q.2.2.2.2.2.2.2.2)
def Ab.sMk (Q : Ab) (mp : Nat → Option Nat) (ms : Nat → Nat) : Ab := (Q.1, Q.2.1, Q.2.2.1, Q.2.2.2.1, Q.2.2.2.2.1, Q.2.2.2.2.2.1, Q.2.2.2.2.2.2.1, Q.2.2.2.2.2.2.2.1, mp, ms, Q.2.2.2.2.2.2.2.2.2.2)
def Ab.sVw (Q : Ab) (v : List Int32) : Ab := (Q.1, Q.2.1, Q.2.2.1, Q.2.2.2.1, Q.2.2.2.2.1, Q.2.2.2.2.2.1, Q.2.2.2.2.2.2.1, Q.2.2.2.2.2.2.2.1, Q.2.2.2.2.2.2.2.2.1, Q.2.2.2.2.2.2.2.2.2.1, v, Q.2.2.2.2.2.2.2.2.2.2.2)
def Ab.sHu (Q : Ab) (h : List (Nat × Nat × Nat × Nat)) : Ab := (Q.1, Q.2.1, Q.2.2.1, Q.2.2.2.1, Q.2.2.2.2.1, Q.2.2.2.2.2.1, Q.2.2.2.2.2.2.1, Q.2.2.2.2.2.2.2.1, Q.2.2.2.2.2.2.2.2.1, Q.2.2.2.2.2.2.2.2.2.1, Q.2.2.2.2.2.2.2.2.2.2.1, h, Q.2.2.2.2.2.2.2.2.2.2.2.2)
def Ab.sAn (Q : Ab) (ap an : Nat → Option Nat) : Ab := (Q.1, Q.2.1, Q.2.2.1, Q.2.2.2.1, Q.2.2.2.2.1, Q.2.2.2.2.2.1, Q.2.2.2.2.2.2.1, Q.2.2.2.2.2.2.2.1, Q.2.2.2.2.2.2.2.2.1, Q.2.2.2.2.2.2.2.2.2.1, Q.2.2.2.2.2.2.2.2.2.2.1, Q.2.2.2.2.2.2.2.2.2.2.2.1, ap, an)
def upF {α : Type} (f : Nat → α) (k : Nat) (v : α) : Nat → α := fun i => if i = k then v else f i
theorem upF_s {α : Type} {f : Nat → α} {k : Nat} {v : α} : upF f k v k = v := if_pos rfl
theorem upF_o {α : Type} {f : Nat → α} {k i : Nat} {v : α} (h : i ≠ k) : upF f k v i = f i := if_neg h
/-- peer p's graph, tree, edits, known counts set -/
def Ab.sPe (Q : Ab) (p : Nat) (G : Gr) (T : Tr) (E : List (Nat × Nat)) : Ab := (upF Q.1 p G, upF Q.2.1 p T, upF Q.2.2.1 p E, Q.2.2.2)
def Ab.sKn (Q : Ab) (p : Nat) (Kn : Nat → Nat → Nat) : Ab := (Q.1, Q.2.1, Q.2.2.1, upF Q.2.2.2.1 p Kn, Q.2.2.2.2)
/-- what a call of the class leaves -/
def cO (o : Nat) : Prop := o ≠ 0 ∧ o < 100
def wtQ (S S' : MM) (F : Nat → Nat × Nat) (t : Nat) (X' : Nat → GX) (kz' : Nat → Nat) (Q' : Ab) : Prop := ∃ F', WT S' F' t X' kz' Q' ∧ (∀ b, b ∈ mL S → F' b = F b) ∧ Keep (fun b => cO (F b).1) S S'
section WTU
variable {S S' : MM} {F F' : Nat → Nat × Nat} {t : Nat} {z : Nat → Nat} {X X' : Nat → GX} {K K' : Nat → Nat} {Q Q' : Ab} {O : Nat → Prop}
theorem WTz.fo (h : WTz S F t z X K Q) : FO S F := h.2.2.2.2.2.2.2.2
theorem WTz.cl (hk : Keep (fun b => O (F b).1) S S') (hO : ∀ o, O o → cO o) : Keep (fun b => cO (F b).1) S S' := hk.mono (fun b _ h => hO _ h)
theorem WTz.same (h : WTz S F t z X K Q) (hk : Keep (fun b => O (F b).1) S S') (hf : ∀ b, b ∈ mL S → F' b = F b) (hFO : FO S' F') (h0 : ∀ o, O o → ¬ (o = 20 ∨ o = 21 ∨ o = 22 ∨ o = 23 ∨ o = 24 ∨ o = 25 ∨ (1 ≤ o ∧ o ≤ 4) ∨ (11 ≤ o ∧ o ≤ 14) ∨ (31 ≤ o ∧ o ≤ 34) ∨ (50 ≤ o ∧ o ≤ 57))) : WTz S' F' t z X K Q :=
  h.mv hk hf hFO (h.1.kp hk (fun w => h0 _ w (by omega)) hf (fun p hp => ⟨Nat.le_refl _, fun _ _ => rfl⟩) rfl rfl rfl rfl rfl rfl rfl rfl) (fun p hp => Or.inr ⟨fun w => h0 _ w (by omega), fun w => h0 _ w (by omega), fun w => h0 _ w (by omega), rfl, rfl, rfl, rfl, rfl, rfl⟩) (Or.inr ⟨fun w => h0 _ w (by omega), rfl, rfl⟩) (Or.inr ⟨fun w => h0 _ w (by omega), rfl⟩) (fun k hk9 => Or.inr ⟨fun w => h0 _ w (by omega), rfl, rfl⟩) (Or.inr ⟨fun w => h0 _ w (by omega), fun _ _ _ => rfl⟩) (Or.inr (fun w => h0 _ w (by omega))) (Or.inr ⟨fun w => h0 _ w (by omega), rfl, rfl⟩)
theorem WTz.tape (h : WTz S F t z X K Q) {B : List Nat} (hB : ∃ d, Bt S' F' 21 (z 0) d B (K' 0)) (hK : ∀ k, k ≠ 0 → K' k = K k) (hk : Keep (fun b => (F b).1 = 21) S S') (hf : ∀ b, b ∈ mL S → F' b = F b) (hFO : FO S' F') : WTz S' F' t z X K' (Q.sTp B) :=
  h.mv (O := fun o => o = 21) hk hf hFO (h.1.kp (O := fun o => o = 21) hk (fun w => by replace w : 20 = 21 := w; omega) hf (fun p hp => ⟨Nat.le_refl _, fun _ _ => rfl⟩) rfl rfl rfl rfl rfl rfl rfl (hK 10 (by omega))) (fun p hp => Or.inr ⟨(fun w => by replace w : p + 1 = 21 := w; omega), (fun w => by replace w : p + 11 = 21 := w; omega), (fun w => by replace w : p + 31 = 21 := w; omega), rfl, rfl, rfl, rfl, rfl, hK _ (by omega)⟩) (Or.inl hB) (Or.inr ⟨(fun w => by replace w : 22 = 21 := w; omega), hK 1 (by omega)⟩) (fun k hk9 => Or.inr ⟨(fun w => by replace w : 50 + k = 21 := w; omega), rfl, hK _ (by omega)⟩) (Or.inr ⟨(fun w => by replace w : 23 = 21 := w; omega), fun k h1 h2 => hK _ (by omega)⟩) (Or.inr (fun w => by replace w : 24 = 21 := w; omega)) (Or.inr ⟨(fun w => by replace w : 25 = 21 := w; omega), rfl, hK 12 (by omega)⟩)
theorem WTz.wire (h : WTz S F t z X K Q) (hB : ∃ d B, Bt S' F' 22 (z 1) d B (K' 1)) (hK : ∀ k, k ≠ 1 → K' k = K k) (hk : Keep (fun b => (F b).1 = 22) S S') (hf : ∀ b, b ∈ mL S → F' b = F b) (hFO : FO S' F') : WTz S' F' t z X K' Q :=
  h.mv (O := fun o => o = 22) hk hf hFO (h.1.kp (O := fun o => o = 22) hk (fun w => by replace w : 20 = 22 := w; omega) hf (fun p hp => ⟨Nat.le_refl _, fun _ _ => rfl⟩) rfl rfl rfl rfl rfl rfl rfl (hK 10 (by omega))) (fun p hp => Or.inr ⟨(fun w => by replace w : p + 1 = 22 := w; omega), (fun w => by replace w : p + 11 = 22 := w; omega), (fun w => by replace w : p + 31 = 22 := w; omega), rfl, rfl, rfl, rfl, rfl, hK _ (by omega)⟩) (Or.inr ⟨(fun w => by replace w : 21 = 22 := w; omega), rfl, hK 0 (by omega)⟩) (Or.inl hB) (fun k hk9 => Or.inr ⟨(fun w => by replace w : 50 + k = 22 := w; omega), rfl, hK _ (by omega)⟩) (Or.inr ⟨(fun w => by replace w : 23 = 22 := w; omega), fun k h1 h2 => hK _ (by omega)⟩) (Or.inr (fun w => by replace w : 24 = 22 := w; omega)) (Or.inr ⟨(fun w => by replace w : 25 = 22 := w; omega), rfl, hK 12 (by omega)⟩)
theorem WTz.slot (h : WTz S F t z X K Q) {j : Nat} {B : List Nat} (hj : j < 8) (hB : ∃ d, Bt S' F' (50 + j) (z (20 + j)) d B (K' (20 + j))) (hK : ∀ k, k ≠ 20 + j → K' k = K k) (hk : Keep (fun b => (F b).1 = 50 + j) S S') (hf : ∀ b, b ∈ mL S → F' b = F b) (hFO : FO S' F') : WTz S' F' t z X K' (Q.sSl (upF Q.sl j B)) :=
  h.mv (O := fun o => o = 50 + j) hk hf hFO (h.1.kp (O := fun o => o = 50 + j) hk (fun w => by replace w : 20 = 50 + j := w; omega) hf (fun p hp => ⟨Nat.le_refl _, fun _ _ => rfl⟩) rfl rfl rfl rfl rfl rfl rfl (hK 10 (by omega))) (fun p hp => Or.inr ⟨(fun w => by replace w : p + 1 = 50 + j := w; omega), (fun w => by replace w : p + 11 = 50 + j := w; omega), (fun w => by replace w : p + 31 = 50 + j := w; omega), rfl, rfl, rfl, rfl, rfl, hK _ (by omega)⟩) (Or.inr ⟨(fun w => by replace w : 21 = 50 + j := w; omega), rfl, hK 0 (by omega)⟩) (Or.inr ⟨(fun w => by replace w : 22 = 50 + j := w; omega), hK 1 (by omega)⟩) (fun l hl => by
    by_cases e : l = j
    · subst e
      refine Or.inl ?_
      rw [show (Q.sSl (upF Q.sl l B)).sl l = B from upF_s]
      exact hB
    · exact Or.inr ⟨(fun w => by replace w : 50 + l = 50 + j := w; omega), upF_o e, hK _ (by omega)⟩) (Or.inr ⟨(fun w => by replace w : 23 = 50 + j := w; omega), fun k h1 h2 => hK _ (by omega)⟩) (Or.inr (fun w => by replace w : 24 = 50 + j := w; omega)) (Or.inr ⟨(fun w => by replace w : 25 = 50 + j := w; omega), rfl, hK 12 (by omega)⟩)
theorem WTz.self (h : WTz S F t z X K Q) (h1 : Sf S' F' t z X K' Q') (hK : ∀ l, l ≠ 10 → K' l = K l) (e1 : Q'.G = Q.G) (e2 : Q'.T = Q.T) (e3 : Q'.E = Q.E) (e4 : Q'.Kn = Q.Kn) (e5 : Q'.tp = Q.tp) (e6 : Q'.sl = Q.sl) (e7 : Q'.hu = Q.hu) (hk : Keep (fun b => (F b).1 = 20) S S') (hf : ∀ b, b ∈ mL S → F' b = F b) (hFO : FO S' F') : WTz S' F' t z X K' Q' :=
  h.mv (O := fun o => o = 20) hk hf hFO h1 (fun p hp => Or.inr ⟨(fun w => by replace w : p + 1 = 20 := w; omega), (fun w => by replace w : p + 11 = 20 := w; omega), (fun w => by replace w : p + 31 = 20 := w; omega), rfl, by rw [e1], by rw [e2], by rw [e3], by rw [e4], hK _ (by omega)⟩) (Or.inr ⟨(fun w => by replace w : 21 = 20 := w; omega), e5, hK 0 (by omega)⟩) (Or.inr ⟨(fun w => by replace w : 22 = 20 := w; omega), hK 1 (by omega)⟩) (fun k hk9 => Or.inr ⟨(fun w => by replace w : 50 + k = 20 := w; omega), by rw [e6], hK _ (by omega)⟩) (Or.inr ⟨(fun w => by replace w : 23 = 20 := w; omega), fun k h1 h2 => hK _ (by omega)⟩) (Or.inr (fun w => by replace w : 24 = 20 := w; omega)) (Or.inr ⟨(fun w => by replace w : 25 = 20 := w; omega), e7, hK 12 (by omega)⟩)
theorem WTz.hunk (h : WTz S F t z X K Q) {qs : List (Nat × Nat × Nat × Nat)} (h1 : ∃ r f0 s0, HuR S' F' 25 (z 12) r (K' 12) qs f0 s0 0 0 ∧ K' 12 ≤ 32768) (hK : ∀ l, l ≠ 12 → K' l = K l) (hk : Keep (fun b => (F b).1 = 25) S S') (hf : ∀ b, b ∈ mL S → F' b = F b) (hFO : FO S' F') : WTz S' F' t z X K' (Q.sHu qs) :=
  h.mv (O := fun o => o = 25) hk hf hFO (h.1.kp (O := fun o => o = 25) hk (fun w => by replace w : 20 = 25 := w; omega) hf (fun p hp => ⟨Nat.le_refl _, fun _ _ => rfl⟩) rfl rfl rfl rfl rfl rfl rfl (hK 10 (by omega))) (fun p hp => Or.inr ⟨(fun w => by replace w : p + 1 = 25 := w; omega), (fun w => by replace w : p + 11 = 25 := w; omega), (fun w => by replace w : p + 31 = 25 := w; omega), rfl, rfl, rfl, rfl, rfl, hK _ (by omega)⟩) (Or.inr ⟨(fun w => by replace w : 21 = 25 := w; omega), rfl, hK 0 (by omega)⟩) (Or.inr ⟨(fun w => by replace w : 22 = 25 := w; omega), hK 1 (by omega)⟩) (fun k hk9 => Or.inr ⟨(fun w => by replace w : 50 + k = 25 := w; omega), rfl, hK _ (by omega)⟩) (Or.inr ⟨(fun w => by replace w : 23 = 25 := w; omega), fun k h1 h2 => hK _ (by omega)⟩) (Or.inr (fun w => by replace w : 24 = 25 := w; omega)) (Or.inl h1)
theorem WTz.writer (h : WTz S F t z X K Q) (h1 : Wk S' F' (z 4) (z 6) K') (hK : ∀ l, l < 40 ∨ 50 < l → K' l = K l) (hk : Keep (fun b => (F b).1 = 23) S S') (hf : ∀ b, b ∈ mL S → F' b = F b) (hFO : FO S' F') : WTz S' F' t z X K' Q :=
  h.mv (O := fun o => o = 23) hk hf hFO (h.1.kp (O := fun o => o = 23) hk (fun w => by replace w : 20 = 23 := w; omega) hf (fun p hp => ⟨Nat.le_refl _, fun _ _ => rfl⟩) rfl rfl rfl rfl rfl rfl rfl (hK 10 (by omega))) (fun p hp => Or.inr ⟨(fun w => by replace w : p + 1 = 23 := w; omega), (fun w => by replace w : p + 11 = 23 := w; omega), (fun w => by replace w : p + 31 = 23 := w; omega), rfl, rfl, rfl, rfl, rfl, hK _ (by omega)⟩) (Or.inr ⟨(fun w => by replace w : 21 = 23 := w; omega), rfl, hK 0 (by omega)⟩) (Or.inr ⟨(fun w => by replace w : 22 = 23 := w; omega), hK 1 (by omega)⟩) (fun k hk9 => Or.inr ⟨(fun w => by replace w : 50 + k = 23 := w; omega), rfl, hK _ (by omega)⟩) (Or.inl h1) (Or.inr (fun w => by replace w : 24 = 23 := w; omega)) (Or.inr ⟨(fun w => by replace w : 25 = 23 := w; omega), rfl, hK 12 (by omega)⟩)
theorem WTz.peer (h : WTz S F t z X K Q) {j : Nat} (hp4 : j < 4) {X1 : GX} {G : Gr} {T : Tr} {E : List (Nat × Nat)} (hB : PeX S' F' j (z (30 + j)) X1 G T E (Q.Kn j) (K' (30 + j))) (hn : (Q.G j).n ≤ G.n ∧ ∀ k, k < (Q.G j).n → X1.ad k = (X j).ad k) (hK : ∀ l, l ≠ 30 + j → K' l = K l) (hk : Keep (fun b => ((F b).1 = j + 1 ∨ (F b).1 = j + 11)) S S') (hf : ∀ b, b ∈ mL S → F' b = F b) (hFO : FO S' F') : WTz S' F' t z (upF X j X1) K' (Q.sPe j G T E) :=
  h.mv (O := fun o => (o = j + 1 ∨ o = j + 11)) hk hf hFO (h.1.kp (O := fun o => (o = j + 1 ∨ o = j + 11)) hk (fun w => by replace w : (20 = j + 1 ∨ 20 = j + 11) := w; omega) hf (fun q hq => by
    by_cases e : q = j
    · subst e
      rw [show (Q.sPe q G T E).G q = G from upF_s, upF_s]; exact hn
    · rw [show (Q.sPe j G T E).G q = Q.G q from upF_o e, upF_o e]; exact ⟨Nat.le_refl _, fun _ _ => rfl⟩) rfl rfl rfl rfl rfl rfl rfl (hK 10 (by omega))) (fun q hq => by
    by_cases e : q = j
    · subst e
      refine Or.inl ?_
      rw [upF_s, show (Q.sPe q G T E).G q = G from upF_s, show (Q.sPe q G T E).T q = T from upF_s, show (Q.sPe q G T E).E q = E from upF_s]
      exact hB
    · exact Or.inr ⟨(fun w => by replace w : (q + 1 = j + 1 ∨ q + 1 = j + 11) := w; omega), (fun w => by replace w : (q + 11 = j + 1 ∨ q + 11 = j + 11) := w; omega), (fun w => by replace w : (q + 31 = j + 1 ∨ q + 31 = j + 11) := w; omega), upF_o e, upF_o e, upF_o e, upF_o e, rfl, hK _ (by omega)⟩) (Or.inr ⟨(fun w => by replace w : (21 = j + 1 ∨ 21 = j + 11) := w; omega), rfl, hK 0 (by omega)⟩) (Or.inr ⟨(fun w => by replace w : (22 = j + 1 ∨ 22 = j + 11) := w; omega), hK 1 (by omega)⟩) (fun k hk9 => Or.inr ⟨(fun w => by replace w : (50 + k = j + 1 ∨ 50 + k = j + 11) := w; omega), rfl, hK _ (by omega)⟩) (Or.inr ⟨(fun w => by replace w : (23 = j + 1 ∨ 23 = j + 11) := w; omega), fun k h1 h2 => hK _ (by omega)⟩) (Or.inr (fun w => by replace w : (24 = j + 1 ∨ 24 = j + 11) := w; omega)) (Or.inr ⟨(fun w => by replace w : (25 = j + 1 ∨ 25 = j + 11) := w; omega), rfl, hK 12 (by omega)⟩)
theorem WTz.known (h : WTz S F t z X K Q) {j : Nat} (hp4 : j < 4) {Kn : Nat → Nat → Nat} (hB : PeX S' F' j (z (30 + j)) (X j) (Q.G j) (Q.T j) (Q.E j) Kn (K' (30 + j))) (hK : ∀ l, l ≠ 30 + j → K' l = K l) (hk : Keep (fun b => (F b).1 = j + 31) S S') (hf : ∀ b, b ∈ mL S → F' b = F b) (hFO : FO S' F') : WTz S' F' t z X K' (Q.sKn j Kn) :=
  h.mv (O := fun o => o = j + 31) hk hf hFO (h.1.kp (O := fun o => o = j + 31) hk (fun w => by replace w : 20 = j + 31 := w; omega) hf (fun p hp => ⟨Nat.le_refl _, fun _ _ => rfl⟩) rfl rfl rfl rfl rfl rfl rfl (hK 10 (by omega))) (fun q hq => by
    by_cases e : q = j
    · subst e
      refine Or.inl ?_
      rw [show (Q.sKn q Kn).Kn q = Kn from upF_s]
      exact hB
    · exact Or.inr ⟨(fun w => by replace w : q + 1 = j + 31 := w; omega), (fun w => by replace w : q + 11 = j + 31 := w; omega), (fun w => by replace w : q + 31 = j + 31 := w; omega), rfl, rfl, rfl, rfl, upF_o e, hK _ (by omega)⟩) (Or.inr ⟨(fun w => by replace w : 21 = j + 31 := w; omega), rfl, hK 0 (by omega)⟩) (Or.inr ⟨(fun w => by replace w : 22 = j + 31 := w; omega), hK 1 (by omega)⟩) (fun k hk9 => Or.inr ⟨(fun w => by replace w : 50 + k = j + 31 := w; omega), rfl, hK _ (by omega)⟩) (Or.inr ⟨(fun w => by replace w : 23 = j + 31 := w; omega), fun k h1 h2 => hK _ (by omega)⟩) (Or.inr (fun w => by replace w : 24 = j + 31 := w; omega)) (Or.inr ⟨(fun w => by replace w : 25 = j + 31 := w; omega), rfl, hK 12 (by omega)⟩)
/-- a peer's change that leaves what it stands for -/
theorem WTz.peer0 (h : WTz S F t z X K Q) {j : Nat} (hp4 : j < 4) (hB : PeX S' F' j (z (30 + j)) (X j) (Q.G j) (Q.T j) (Q.E j) (Q.Kn j) (K (30 + j))) (hk : Keep (fun b => ((F b).1 = j + 1 ∨ (F b).1 = j + 11)) S S') (hf : ∀ b, b ∈ mL S → F' b = F b) (hFO : FO S' F') : WTz S' F' t z X K Q :=
  h.mv (O := fun o => (o = j + 1 ∨ o = j + 11)) hk hf hFO (h.1.kp (O := fun o => (o = j + 1 ∨ o = j + 11)) hk (fun w => by replace w : (20 = j + 1 ∨ 20 = j + 11) := w; omega) hf (fun p hp => ⟨Nat.le_refl _, fun _ _ => rfl⟩) rfl rfl rfl rfl rfl rfl rfl rfl) (fun q hq => by
    by_cases e : q = j
    · subst e; exact Or.inl hB
    · exact Or.inr ⟨(fun w => by replace w : (q + 1 = j + 1 ∨ q + 1 = j + 11) := w; omega), (fun w => by replace w : (q + 11 = j + 1 ∨ q + 11 = j + 11) := w; omega), (fun w => by replace w : (q + 31 = j + 1 ∨ q + 31 = j + 11) := w; omega), rfl, rfl, rfl, rfl, rfl, rfl⟩) (Or.inr ⟨(fun w => by replace w : (21 = j + 1 ∨ 21 = j + 11) := w; omega), rfl, rfl⟩) (Or.inr ⟨(fun w => by replace w : (22 = j + 1 ∨ 22 = j + 11) := w; omega), rfl⟩) (fun k hk9 => Or.inr ⟨(fun w => by replace w : (50 + k = j + 1 ∨ 50 + k = j + 11) := w; omega), rfl, rfl⟩) (Or.inr ⟨(fun w => by replace w : (23 = j + 1 ∨ 23 = j + 11) := w; omega), fun k h1 h2 => rfl⟩) (Or.inr (fun w => by replace w : (24 = j + 1 ∨ 24 = j + 11) := w; omega)) (Or.inr ⟨(fun w => by replace w : (25 = j + 1 ∨ 25 = j + 11) := w; omega), rfl, rfl⟩)
end WTU
