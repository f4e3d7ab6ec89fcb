/-! ===== WHAT A MESSAGE IS MADE OF DOES NOT HANG ON WHAT WAS PACKED BEFORE ===== -/
def smV (V V' : Nat → List Int32) : Prop := ∀ k, k ≠ 4 → V k = V' k
theorem smV.upd {V V' : Nat → List Int32} (h : smV V V') {k : Nat} {v v' : List Int32} (e : v = v') : smV (updI V k v) (updI V' k v') := fun i hi => by
  subst e
  unfold updI
  by_cases c : i = k
  · rw [if_pos c, if_pos c]
  · rw [if_neg c, if_neg c]; exact h i hi
theorem csA_sm {G : Gr} {V V' : Nat → List Int32} {M : List Nat} {f z : Nat} (h : smV V V') : smV (csA G V M f z) (csA G V' M f z) := h.upd (by rw [h 1 (by decide)])
theorem csP_sm {G : Gr} {V V' : Nat → List Int32} {M : List Nat} {f z : Nat} {sb : Option Nat} (h : smV V V') : smV (csP G V M f z sb) (csP G V' M f z sb) := (csA_sm h).upd (by rw [csA_sm h 2 (by decide)])
theorem csV_sm {G : Gr} {V V' : Nat → List Int32} {M : List Nat} {cu : Cur} {sb : Option Nat} {ex : Int32} (h : smV V V') : smV (csV G V M cu sb ex) (csV G V' M cu sb ex) := by
  unfold csV
  cases cu with
  | none => exact h
  | some q => exact (csP_sm h).upd (by rw [csP_sm h 3 (by decide)])
theorem aeW_sm {G : Gr} {V V' : Nat → List Int32} {M : List Nat} {cu : Cur} {sb : Option Nat} {ex : Int32} {y : Nat} (h : smV V V') : smV (aeW G V M cu sb ex y) (aeW G V' M cu sb ex y) := by
  unfold aeW
  split
  · exact h
  · exact csV_sm h
theorem aeV_sm {G : Gr} {V V' : Nat → List Int32} {M : List Nat} {cu : Cur} {sb : Option Nat} {ex : Int32} {y : Nat} (h : smV V V') : smV (aeV G V M cu sb ex y) (aeV G V' M cu sb ex y) := by
  unfold aeV
  cases (G.ev y).ch with
  | none => exact aeW_sm h
  | some c => exact (aeW_sm h).upd (by rw [aeW_sm h 5 (by decide)])
theorem gaS_sm {G : Gr} {Kn : Nat → Nat → Nat} {o : Option Nat} {V V' : Nat → List Int32} : ∀ k, smV (gaS G Kn o V k).1 (gaS G Kn o V' k).1 ∧ (gaS G Kn o V k).2 = (gaS G Kn o V' k).2
  | 0 => ⟨fun i hi => by show bgV V i = bgV V' i; unfold bgV; rw [if_neg hi, if_neg hi], rfl⟩
  | k + 1 => by
    obtain ⟨h1, h2⟩ := gaS_sm (G := G) (Kn := Kn) (o := o) (V := V) (V' := V') k
    unfold gaS
    split
    · unfold aeS
      rw [h2]
      exact ⟨aeV_sm h1, rfl⟩
    · exact ⟨h1, h2⟩
theorem gaV_sm {G : Gr} {Kn : Nat → Nat → Nat} {o : Option Nat} {V V' : Nat → List Int32} : smV (gaV G Kn o V) (gaV G Kn o V') ∧ gaM G Kn o V = gaM G Kn o V' := by
  obtain ⟨h1, h2⟩ := gaS_sm (G := G) (Kn := Kn) (o := o) (V := V) (V' := V') G.n
  unfold gaV gaM
  rw [h2]
  exact ⟨csV_sm h1, rfl⟩
theorem gaP_sm {G : Gr} {Kn : Nat → Nat → Nat} {o : Option Nat} {V V' : Nat → List Int32} : smV (gaP G Kn o V) (gaP G Kn o V') := by
  obtain ⟨h1, h2⟩ := gaV_sm (G := G) (Kn := Kn) (o := o) (V := V) (V' := V')
  unfold gaP gaA
  rw [h2]
  exact h1.upd (by rw [h1 0 (by decide)])
theorem gaR_sm {G : Gr} {Kn : Nat → Nat → Nat} {o : Option Nat} {V V' : Nat → List Int32} : gaR G Kn o V = gaR G Kn o V' := by
  unfold gaR; rw [gaP_sm (V' := V') 5 (by decide)]
theorem gaF_sm {G : Gr} {Kn : Nat → Nat → Nat} {o : Option Nat} {V V' : Nat → List Int32} : gaF G Kn o V = gaF G Kn o V' := by
  funext k
  unfold gaF updI
  by_cases c : k = 4
  · rw [if_pos c, if_pos c, gaR_sm (V' := V')]
  · rw [if_neg c, if_neg c]; exact gaP_sm k c
def V0 : Nat → List Int32 := fun _ => []
/-- the patch's columns -/
def paF (G : Gr) (Kn : Nat → Nat → Nat) (o : Option Nat) : Nat → List Int32 := gaF G Kn o V0
def sdC (K : Nat → Nat) (G : Gr) (Kn : Nat → Nat → Nat) (o : Option Nat) : Nat := addNC (paF G Kn o 0).length (K 40) 0 + addNC (paF G Kn o 1).length (K 41) 0 + addNC (paF G Kn o 2).length (K 42) 0 + addNC (paF G Kn o 3).length (K 43) 0 + addNC (paF G Kn o 4).length (K 44) 0 + addNC (paF G Kn o 5).length (K 45) 0 + odC (K 50) (gaR G Kn o V0).length
def sdZ (K : Nat → Nat) (G : Gr) (Kn : Nat → Nat → Nat) (o : Option Nat) : Nat := addNS (paF G Kn o 0).length (K 40) 0 + addNS (paF G Kn o 1).length (K 41) 0 + addNS (paF G Kn o 2).length (K 42) 0 + addNS (paF G Kn o 3).length (K 43) 0 + addNS (paF G Kn o 4).length (K 44) 0 + addNS (paF G Kn o 5).length (K 45) 0 + odS (K 50) (gaR G Kn o V0).length
/-- the rows' sizes behind a gathering -/
def sdK (K : Nat → Nat) (G : Gr) (Kn : Nat → Nat → Nat) (o : Option Nat) : Nat → Nat := fun k => if k = 50 then odN (K 50) (gaR G Kn o V0).length else if 40 ≤ k ∧ k < 46 then capN (paF G Kn o (k - 40)).length (K k) 0 else K k
theorem paF_o {G : Gr} {Kn : Nat → Nat → Nat} {o : Option Nat} {V : Nat → List Int32} {k : Nat} (h : k ≠ 4) : gaP G Kn o V k = paF G Kn o k := by
  unfold paF
  rw [gaF_sm (V' := V)]
  exact (updI_o h).symm
theorem ga_cost {G : Gr} {Kn : Nat → Nat → Nat} {o : Option Nat} {V : Nat → List Int32} {cap : Nat → Nat} {K : Nat → Nat} (hK : ∀ k, k < 6 → capN (V k).length (cap k) 0 = K (40 + k)) : gaC G Kn o V cap (K 50) = sdC K G Kn o ∧ gaZ G Kn o V cap (K 50) = sdZ K G Kn o := by
  have b : ∀ k, k < 6 → k ≠ 4 → bgC V cap k = K (40 + k) := fun k h1 h2 => by unfold bgC; rw [if_neg h2]; exact hK k h1
  have c4 : bgC V cap 4 = cap 4 := if_pos rfl
  have v4 : bgV V 4 = V 4 := if_pos rfl
  have vk : ∀ k, k ≠ 4 → bgV V k = [] := fun k h => if_neg h
  have p4 : packV (gaR G Kn o V) = paF G Kn o 4 := by unfold paF; rw [gaF_sm (V' := V)]; exact updI_s.symm
  have k4 : capN (V 4).length (cap 4) 0 = K 44 := hK 4 (by decide)
  have b0 : bgC V cap 0 = K 40 := b 0 (by decide) (by decide)
  have b1 : bgC V cap 1 = K 41 := b 1 (by decide) (by decide)
  have b2 : bgC V cap 2 = K 42 := b 2 (by decide) (by decide)
  have b3 : bgC V cap 3 = K 43 := b 3 (by decide) (by decide)
  have b5 : bgC V cap 5 = K 45 := b 5 (by decide) (by decide)
  constructor
  · unfold gaC sdC wcC
    rw [paF_o (V := V) (k := 0) (by decide), paF_o (V := V) (k := 1) (by decide), paF_o (V := V) (k := 2) (by decide), paF_o (V := V) (k := 3) (by decide), paF_o (V := V) (k := 5) (by decide), gaP_4, v4, vk 0 (by decide), vk 1 (by decide), vk 2 (by decide), vk 3 (by decide), vk 5 (by decide), b0, b1, b2, b3, b5, c4, p4, k4, gaR_sm (V := V) (V' := V0)]
    show _ - (0 + 0 + 0 + 0 + addNC (V 4).length (cap 4) 0 + 0) + _ = _
    omega
  · unfold gaZ sdZ wcZ
    rw [paF_o (V := V) (k := 0) (by decide), paF_o (V := V) (k := 1) (by decide), paF_o (V := V) (k := 2) (by decide), paF_o (V := V) (k := 3) (by decide), paF_o (V := V) (k := 5) (by decide), gaP_4, v4, vk 0 (by decide), vk 1 (by decide), vk 2 (by decide), vk 3 (by decide), vk 5 (by decide), b0, b1, b2, b3, b5, c4, p4, k4, gaR_sm (V := V) (V' := V0)]
    show _ - (0 + 0 + 0 + 0 + addNS (V 4).length (cap 4) 0 + 0) + _ = _
    omega
/-- the message's size as the writer tells it -/
def paT (G : Gr) (Kn : Nat → Nat → Nat) (o : Option Nat) : Nat := 7 + szN (paF G Kn o 0) + szN (paF G Kn o 1) + szN (paF G Kn o 2) + szN (paF G Kn o 3) + szN (paF G Kn o 4)
theorem ush7n (x : Int32) : (ush x 7).toBitVec.toNat = x.toBitVec.toNat / 128 := by
  show (x.toBitVec >>> (7 : Nat)).toNat = _
  rw [BitVec.toNat_ushiftRight, Nat.shiftRight_eq_div_pow]
theorem ush7_nI {n : Nat} (h : n < 2147483648) : ush (nI n) 7 = nI (n / 128) := by
  apply Int32.toBitVec_inj.1
  apply BitVec.eq_of_toNat_eq
  rw [ush7n, pk_tn (by omega), pk_tn (by omega)]
theorem nI_127 {v : Nat} (h : v < 2147483648) : nI v ≤ 127 ↔ v ≤ 127 := by
  rw [← Int32.not_lt, show (127 : Int32) = nI 127 from rfl, nI_ltI (by decide) h]
  omega
theorem vbs_vw {n : Nat} (h : n ≤ 32768) : (vbs 4 (nI n)).length = vwN n := by
  unfold vwN
  by_cases c : n ≤ 127
  · have q1 : nI n ≤ 127 := (nI_127 (by omega)).2 c
    rw [if_neg (by omega), vbs, if_pos q1]; rfl
  · have q1 : ¬ nI n ≤ 127 := fun q => c ((nI_127 (by omega)).1 q)
    rw [if_pos (by omega), vbs, if_neg q1, ush7_nI (by omega)]
    by_cases d : n < 16384
    · have q2 : nI (n / 128) ≤ 127 := (nI_127 (by omega)).2 (by omega)
      rw [if_neg (by omega), vbs, if_pos q2]; rfl
    · have q2 : ¬ nI (n / 128) ≤ 127 := fun q => by
        have := (nI_127 (by omega)).1 q
        omega
      have q3 : nI (n / 128 / 128) ≤ 127 := (nI_127 (by omega)).2 (by omega)
      rw [if_pos (by omega), vbs, if_neg q2, ush7_nI (by omega), vbs, if_pos q3]; rfl
theorem colV_sz {vs : List Int32} (h : vs.length ≤ 32768) : (colV (bPuts [] vs)).length = szN vs := by
  have e : (bPuts [] vs).length = vs.length := by
    rw [bPuts_len (by decide)]
    show min (0 + vs.length) 32768 = _
    omega
  unfold colV
  rw [List.length_append, rngV_len, e, vbs_vw h, szN, if_pos h]
  omega
theorem colV_ge {vs : List Int32} (h : ¬ vs.length ≤ 32768) : 32768 ≤ (colV (bPuts [] vs)).length := by
  have e : (bPuts [] vs).length = 32768 := by
    rw [bPuts_len (by decide)]
    show min (0 + vs.length) 32768 = _
    omega
  unfold colV
  rw [List.length_append, rngV_len, e]
  omega
theorem coV_l5 {V : Nat → List Int32} {sn : Int32} : (coV V sn 5).length = 3 + (colV (bPuts [] (V 0))).length + (colV (bPuts [] (V 1))).length + (colV (bPuts [] (V 2))).length + (colV (bPuts [] (V 3))).length + (colV (bPuts [] (V 4))).length := by
  rw [coV, coV, coV, coV, coV, List.length_append, List.length_append, List.length_append, List.length_append, List.length_append]
  rfl
/-- bytes of a message are spilt just where its size, as the columns' sizes tell it, is too large -/
theorem coA_fit {V : Nat → List Int32} {sn : Int32} : 7 + szN (V 0) + szN (V 1) + szN (V 2) + szN (V 3) + szN (V 4) ≤ 32768 ↔ (coA V sn).length ≤ 32768 := by
  rw [coA_len, coV_l5]
  by_cases c : ∀ k, k < 5 → (V k).length ≤ 32768
  · rw [colV_sz (c 0 (by decide)), colV_sz (c 1 (by decide)), colV_sz (c 2 (by decide)), colV_sz (c 3 (by decide)), colV_sz (c 4 (by decide))]
    omega
  · obtain ⟨k, hk, hl⟩ : ∃ k, k < 5 ∧ 32768 < (V k).length := Classical.byContradiction (fun q => c (fun k hk => Nat.le_of_not_lt (fun w => q ⟨k, hk, w⟩)))
    have e : szN (V k) = 32768 := if_neg (by omega)
    have f := colV_ge (vs := V k) (by omega)
    rcases (show k = 0 ∨ k = 1 ∨ k = 2 ∨ k = 3 ∨ k = 4 by omega) with q | q | q | q | q <;> subst q <;> omega
theorem paT_co {G : Gr} {Kn : Nat → Nat → Nat} {o : Option Nat} (p : Int32) : paT G Kn o ≤ 32768 ↔ (coA (paF G Kn o) p).length ≤ 32768 := coA_fit
theorem rngV_all {B : List Nat} (h : B.length ≤ 32768) : rngV B 0 B.length = B.map nI := by
  refine List.ext_getElem? (fun k => ?_)
  unfold rngV
  rw [List.getElem?_map, List.getElem?_map]
  by_cases c : k < B.length
  · rw [List.getElem?_range c, List.getElem?_eq_getElem c]
    show some (bAt B (nI (0 + k))) = some (nI B[k])
    rw [Nat.zero_add, bAt_nI (by omega), getD_el c]
  · have e1 : (List.range B.length)[k]? = none := List.getElem?_eq_none (by rw [List.length_range]; omega)
    have e2 : B[k]? = none := List.getElem?_eq_none (by omega)
    rw [e1, e2]
    try rfl
/-- the flag of a row of bytes that was cleared and then filled -/
theorem App.spilt {S S' : MM} {o d d' : Nat} {vs : List Int32} (h : App (clr S o) S' o d d' [] vs) : mI S' 202 o = if vs.length ≤ 32768 then 0 else 1 := by
  have z0 : mI (clr S o) 202 o = 0 := by
    show mI (sI (sI S 201 o 0) 202 o 0) 202 o = 0
    rw [mI_sI, if_pos ⟨rfl, rfl⟩]
  rw [h.2.2.2.1, z0, List.length_nil, Nat.zero_add]
/-- the rows' sizes behind a gathering, and the patch in the wire -/
def snK (kz : Nat → Nat) (G : Gr) (Kn : Nat → Nat → Nat) (o : Option Nat) (p : Int32) : Nat → Nat := upF (sdK kz G Kn o) 1 (capN (coA (paF G Kn o) p).length (kz 1) 0)
/-- gathering, over the whole object -/
theorem WTz.gath {S S' : MM} {F : Nat → Nat × Nat} {t : Nat} {z : Nat → Nat} {X : Nat → GX} {K : Nat → Nat} {Q : Ab} (h : WTz S F t z X K Q) {pl me : Nat} {a d : Nat → Nat} {V : Nat → List Int32} {cap : Nat → Nat} (hW : PW0 S F 23 (z 4) (z 6) pl me a d V cap) (hn : ∀ k, k < 6 → mN S (d k) = K (40 + k)) (ho : mN S (a 7) = K 50) {G : Gr} {Kn : Nat → Nat → Nat} {oo : Option Nat} (hq : gaQ S S' F 23 (z 4) (z 6) pl me a V cap G Kn oo) : ∃ F' a' d' cap', PW S' F' 23 (z 4) (z 6) pl me a' d' (paF G Kn oo) cap' (gaM G Kn oo V) ∧ WTz S' F' t z X (sdK K G Kn oo) Q ∧ (∀ b, b ∈ mL S → F' b = F b) ∧ Keep (fun b => (F b).1 = 23) S S' := by
  obtain ⟨F', d', o', w1, w2, w3, w4⟩ := hq
  have e1 : gaF G Kn oo V = paF G Kn oo := gaF_sm
  rw [e1] at w1
  have wc := w1.2.2.2.2.2.2.2.2.2.1
  have fo := w1.2.2.2.2.2.2.2.2.2.2.1
  have hc := hW.2.2.2.2.2.2.2.2.2.1
  have hK : ∀ k, k < 6 → capN (V k).length (cap k) 0 = K (40 + k) := fun k hk => (hc k hk).2.2.2.2.symm.trans (hn k hk)
  refine ⟨F', _, d', _, w1, h.writer ⟨pl, me, _, d', _, _, w1.pw0, fun k hk => ?_, ?_⟩ (fun l hl => ?_) w3 w2 fo, w2, w3⟩
  · rw [(wc k hk).2.2.2.2]
    unfold sdK
    rw [if_neg (by omega), if_pos ⟨by omega, by omega⟩, show 40 + k - 40 = k by omega]
    congr 1
    by_cases e : k = 4
    · subst e; rw [updN_eq]; exact hK 4 (by decide)
    · rw [updN_ne e]; unfold bgC; rw [if_neg e]; exact hK k hk
  · rw [updN_eq, w4, ho]
    unfold sdK
    rw [if_pos rfl, gaR_sm (V := V) (V' := V0)]
  · unfold sdK
    rw [if_neg (by omega), if_neg (by omega)]
def toO (x : Int32) (o : Option Nat) : Prop := x = loI o ∧ ∀ q, o = some q → q < 4
def sdO (x : Int32) : Option Nat := if x < 0 then none else some x.toNatClampNeg
theorem toO_sd {x : Int32} {o : Option Nat} (h : toO x o) : sdO x = o := by
  obtain ⟨rfl, h2⟩ := h
  cases o with
  | none => rfl
  | some q =>
    have := h2 q rfl
    unfold sdO
    rw [show loI (some q) = nI q from rfl, if_neg (nI_pos (by omega)), nI_clamp (by omega)]
def snC (kz : Nat → Nat) (Q : Ab) (p x s : Int32) : Nat := sdC kz (Q.G p.toNatClampNeg) (Q.Kn p.toNatClampNeg) (sdO x) + addNC (coA (paF (Q.G p.toNatClampNeg) (Q.Kn p.toNatClampNeg) (sdO x)) p).length (kz 1) 0 + (if paT (Q.G p.toNatClampNeg) (Q.Kn p.toNatClampNeg) (sdO x) ≤ 32768 then addNC (coA (paF (Q.G p.toNatClampNeg) (Q.Kn p.toNatClampNeg) (sdO x)) p).length (kz (20 + s.toNatClampNeg)) 0 else 0)
def snZ (kz : Nat → Nat) (Q : Ab) (p x s : Int32) : Nat := sdZ kz (Q.G p.toNatClampNeg) (Q.Kn p.toNatClampNeg) (sdO x) + addNS (coA (paF (Q.G p.toNatClampNeg) (Q.Kn p.toNatClampNeg) (sdO x)) p).length (kz 1) 0 + (if paT (Q.G p.toNatClampNeg) (Q.Kn p.toNatClampNeg) (sdO x) ≤ 32768 then addNS (coA (paF (Q.G p.toNatClampNeg) (Q.Kn p.toNatClampNeg) (sdO x)) p).length (kz (20 + s.toNatClampNeg)) 0 else 0)
def I_sn (t : Nat) (p x s : Int32) (F : Nat → Nat × Nat) (X : Nat → GX) (kz : Nat → Nat) (Q : Ab) (S : MM) (k : Nat) : KT := fun lo st S1 cs sl => ∃ c n z, k = 0 ∧ WTz S F t z X kz Q ∧ n < 4 ∧ p = nI n ∧ ((c = 1 ∧ ∃ o, toO x o) ∨ (c = 0 ∧ ¬ ∃ o, toO x o)) ∧ lo = [(0, .inr (.inr (some t))), (1, .inl p), (2, .inl x), (3, .inl s), (4, .inr (.inr (some (z (30 + n)))))] ∧ st = [.inl c] ∧ S = S1 ∧ cs = 1 ∧ sl = 6
def T_wsd : TR := fun Rc Rs av S cs sl K Kx => match av with
  | [.inr (.inr t_o), .inl p, .inl x, .inl s] => pa t_o fun t => (∃ (F : Nat → Nat × Nat) (X : Nat → GX) (kz : Nat → Nat) (Q : Ab), (WT S F t X kz Q) ∧ cs + (snC kz Q p x s + 4) ≤ Rc ∧ sl + (snZ kz Q p x s + 24) ≤ Rs ∧ ((∀ (v : Int32) (S' : MM), (∃ n i o, n < 4 ∧ p = nI n ∧ toO x o ∧ i < 8 ∧ s = nI i ∧ paT (Q.G n) (Q.Kn n) o ≤ 32768 ∧ v = nI (bPuts [] (coA (paF (Q.G n) (Q.Kn n) o) p)).length ∧ wtQ S S' F t X (upF (snK kz (Q.G n) (Q.Kn n) o p) (20 + i) (capN (coA (paF (Q.G n) (Q.Kn n) o) p).length (kz (20 + i)) 0)) (Q.sSl (upF Q.sl i (bPuts [] (coA (paF (Q.G n) (Q.Kn n) o) p))))) → K (some (.inl v)) S' (cs + (snC kz Q p x s + 4)) (sl + (snZ kz Q p x s + 24))) ∧ ((np 4 p ∨ (¬ ∃ o, toO x o) ∨ np 8 s) → Kx 1 S (cs + (snC kz Q p x s + 4)) (sl + (snZ kz Q p x s + 24))) ∧ (∀ (S' : MM), (∃ n i o, n < 4 ∧ p = nI n ∧ toO x o ∧ i < 8 ∧ s = nI i ∧ 32768 < paT (Q.G n) (Q.Kn n) o ∧ wtQ S S' F t X (snK kz (Q.G n) (Q.Kn n) o p) Q) → Kx 0 S' (cs + (snC kz Q p x s + 4)) (sl + (snZ kz Q p x s + 24)))))
  | _ => False
def sp_wsd (t : Nat) (p : Int32) (x : Int32) (s : Int32) (F : Nat → Nat × Nat) (X : Nat → GX) (kz : Nat → Nat) (Q : Ab) : Sp := (fun av S => av = [.inr (.inr (some t)), .inl p, .inl x, .inl s] ∧ (WT S F t X kz Q), fun _ S => snC kz Q p x s + 4, fun _ S => snZ kz Q p x s + 24, fun _ S rv S' => ∃ v, rv = (some (.inl v)) ∧ (∃ n i o, n < 4 ∧ p = nI n ∧ toO x o ∧ i < 8 ∧ s = nI i ∧ paT (Q.G n) (Q.Kn n) o ≤ 32768 ∧ v = nI (bPuts [] (coA (paF (Q.G n) (Q.Kn n) o) p)).length ∧ wtQ S S' F t X (upF (snK kz (Q.G n) (Q.Kn n) o p) (20 + i) (capN (coA (paF (Q.G n) (Q.Kn n) o) p).length (kz (20 + i)) 0)) (Q.sSl (upF Q.sl i (bPuts [] (coA (paF (Q.G n) (Q.Kn n) o) p))))), fun _ S E S' => (E = 1 ∧ (np 4 p ∨ (¬ ∃ o, toO x o) ∨ np 8 s) ∧ S' = S) ∨ (E = 0 ∧ (∃ n i o, n < 4 ∧ p = nI n ∧ toO x o ∧ i < 8 ∧ s = nI i ∧ 32768 < paT (Q.G n) (Q.Kn n) o ∧ wtQ S S' F t X (snK kz (Q.G n) (Q.Kn n) o p) Q)))
def tX11_send : CD := [(0, .aload_n 0), (1, .iload_n 1), (2, .invokevirtual 108), (5, .astore 4), (7, .iload_n 2), (8, .iconst (-1)), (9, .if_icmp .lt 12), (12, .iload_n 2), (13, .iconst 4), (14, .if_icmp .ge 7), (17, .iconst 1), (18, .goto 4), (21, .iconst 0), (22, .invokestatic 104), (25, .aload_n 0), (26, .iload_n 3), (27, .invokevirtual 242), (30, .astore 5), (32, .aload_n 0), (33, .getfield 77), (36, .aload 4), (38, .iload_n 2), (39, .invokevirtual 250), (42, .aload_n 0), (43, .getfield 77), (46, .aload_n 0), (47, .getfield 16), (50, .iload_n 1), (51, .invokevirtual 254), (54, .aload_n 0), (55, .getfield 16), (58, .getfield 258), (61, .ifCond .eq 11), (64, .new 98), (67, .dup), (68, .invokespecial 100), (71, .athrow), (72, .aload 5), (74, .invokevirtual 133), (77, .aload 5), (79, .aload_n 0), (80, .getfield 16), (83, .iconst 0), (84, .aload_n 0), (85, .getfield 16), (88, .getfield 94), (91, .invokevirtual 261), (94, .aload 5), (96, .getfield 94), (99, .ireturn)]
set_option maxRecDepth 100000 in
theorem kX11_send : chk cX11_send tX11_send = true := by decide +kernel
theorem vX11_send_108 : ∀ w ∈ ([.methodLink RX11 108 yX11_peerOf, .instanceMethod yX11_peerOf, .selects yX11_peerOf.cls yX11_peerOf yX11_peerOf, .initialized yX11_peerOf.cls, .code yX11_peerOf cX11_peerOf 2 (some (.object "WeaveText$Peer"))] : List Cond), w ∈ lw_good := List.forall_mem_cons.mpr ⟨mgd 827 (by decide +kernel) (by decide +kernel), List.forall_mem_cons.mpr ⟨mgd 829 (by decide +kernel) (by decide +kernel), List.forall_mem_cons.mpr ⟨mgd 1 (by decide +kernel) (by decide +kernel), List.forall_mem_cons.mpr ⟨mgd 121 (by decide +kernel) (by decide +kernel), List.forall_mem_cons.mpr ⟨mgd 830 (by decide +kernel) (by decide +kernel), fun _ h => absurd h List.not_mem_nil⟩⟩⟩⟩⟩
theorem vX11_send_104 : ∀ w ∈ ([.methodLink RX11 104 yX11_require, .static yX11_require, .initialized yX11_require.cls, .code yX11_require cX11_require 1 none] : List Cond), w ∈ lw_good := List.forall_mem_cons.mpr ⟨mgd 801 (by decide +kernel) (by decide +kernel), List.forall_mem_cons.mpr ⟨mgd 802 (by decide +kernel) (by decide +kernel), List.forall_mem_cons.mpr ⟨mgd 121 (by decide +kernel) (by decide +kernel), List.forall_mem_cons.mpr ⟨mgd 803 (by decide +kernel) (by decide +kernel), fun _ h => absurd h List.not_mem_nil⟩⟩⟩⟩
theorem vX11_send_242 : ∀ w ∈ ([.methodLink RX11 242 yX11_slotOf, .instanceMethod yX11_slotOf, .selects yX11_slotOf.cls yX11_slotOf yX11_slotOf, .initialized yX11_slotOf.cls, .code yX11_slotOf cX11_slotOf 2 (some (.object "WeaveText$Bytes"))] : List Cond), w ∈ lw_good := List.forall_mem_cons.mpr ⟨mgd 1327 (by decide +kernel) (by decide +kernel), List.forall_mem_cons.mpr ⟨mgd 1329 (by decide +kernel) (by decide +kernel), List.forall_mem_cons.mpr ⟨mgd 23 (by decide +kernel) (by decide +kernel), List.forall_mem_cons.mpr ⟨mgd 121 (by decide +kernel) (by decide +kernel), List.forall_mem_cons.mpr ⟨mgd 1330 (by decide +kernel) (by decide +kernel), fun _ h => absurd h List.not_mem_nil⟩⟩⟩⟩⟩
theorem vX11_send_250 : ∀ w ∈ ([.methodLink RX11 250 yX9_gather, .instanceMethod yX9_gather, .selects yX9_gather.cls yX9_gather yX9_gather, .initialized yX9_gather.cls, .code yX9_gather cX9_gather 6 none] : List Cond), w ∈ lw_good := List.forall_mem_cons.mpr ⟨mgd 1362 (by decide +kernel) (by decide +kernel), List.forall_mem_cons.mpr ⟨mgd 1363 (by decide +kernel) (by decide +kernel), List.forall_mem_cons.mpr ⟨mgd 1364 (by decide +kernel) (by decide +kernel), List.forall_mem_cons.mpr ⟨mgd 133 (by decide +kernel) (by decide +kernel), List.forall_mem_cons.mpr ⟨mgd 1365 (by decide +kernel) (by decide +kernel), fun _ h => absurd h List.not_mem_nil⟩⟩⟩⟩⟩
theorem vX11_send_254 : ∀ w ∈ ([.methodLink RX11 254 yX9_compose, .instanceMethod yX9_compose, .selects yX9_compose.cls yX9_compose yX9_compose, .initialized yX9_compose.cls, .code yX9_compose cX9_compose 3 none] : List Cond), w ∈ lw_good := List.forall_mem_cons.mpr ⟨mgd 1440 (by decide +kernel) (by decide +kernel), List.forall_mem_cons.mpr ⟨mgd 1441 (by decide +kernel) (by decide +kernel), List.forall_mem_cons.mpr ⟨mgd 1442 (by decide +kernel) (by decide +kernel), List.forall_mem_cons.mpr ⟨mgd 133 (by decide +kernel) (by decide +kernel), List.forall_mem_cons.mpr ⟨mgd 1443 (by decide +kernel) (by decide +kernel), fun _ h => absurd h List.not_mem_nil⟩⟩⟩⟩⟩
theorem vX11_send_133 : ∀ w ∈ ([.methodLink RX11 133 yX1_clear, .instanceMethod yX1_clear, .selects yX1_clear.cls yX1_clear yX1_clear, .initialized yX1_clear.cls, .code yX1_clear cX1_clear 1 none] : List Cond), w ∈ lw_good := List.forall_mem_cons.mpr ⟨mgd 1052 (by decide +kernel) (by decide +kernel), List.forall_mem_cons.mpr ⟨mgd 1053 (by decide +kernel) (by decide +kernel), List.forall_mem_cons.mpr ⟨mgd 1054 (by decide +kernel) (by decide +kernel), List.forall_mem_cons.mpr ⟨mgd 122 (by decide +kernel) (by decide +kernel), List.forall_mem_cons.mpr ⟨mgd 1055 (by decide +kernel) (by decide +kernel), fun _ h => absurd h List.not_mem_nil⟩⟩⟩⟩⟩
theorem vX11_send_261 : ∀ w ∈ ([.methodLink RX11 261 yX1_addRange, .instanceMethod yX1_addRange, .selects yX1_addRange.cls yX1_addRange yX1_addRange, .initialized yX1_addRange.cls, .code yX1_addRange cX1_addRange 5 none] : List Cond), w ∈ lw_good := List.forall_mem_cons.mpr ⟨mgd 1452 (by decide +kernel) (by decide +kernel), List.forall_mem_cons.mpr ⟨mgd 1433 (by decide +kernel) (by decide +kernel), List.forall_mem_cons.mpr ⟨mgd 1434 (by decide +kernel) (by decide +kernel), List.forall_mem_cons.mpr ⟨mgd 122 (by decide +kernel) (by decide +kernel), List.forall_mem_cons.mpr ⟨mgd 1435 (by decide +kernel) (by decide +kernel), fun _ h => absurd h List.not_mem_nil⟩⟩⟩⟩⟩
set_option maxRecDepth 100000 in
set_option maxHeartbeats 2000000 in
theorem c_wsd (l : Launch) (hlt : l.stackTraces = false) : ∀ (t : Nat) (p : Int32) (x : Int32) (s : Int32) (F : Nat → Nat × Nat) (X : Nat → GX) (kz : Nat → Nat) (Q : Ab), CtX l yX11_send (Cond.code yX11_send cX11_send 6 (some .int)) (some .int) 8 187 (sp_wsd t p x s F X kz Q) := by
  intro t p x s F X kz Q
  refine CtX.of hlt (fX11, nX11, aX11, iX11, lX11, [(108, 0, 2, 3, T_wpo), (104, 2, 1, 0, T_wrq), (242, 0, 2, 3, T_wso9), (250, 0, 3, 0, T_wga), (254, 0, 3, 0, T_wco), (133, 0, 1, 0, T_bclr), (261, 0, 4, 0, T_brng)], qX11, gX11, thX11) false tX11_send (fun _ S => look [(22, ([0,1,2,3,4], I_sn t p x s F X kz Q S))]) (by decide) (by decide) kX11_send ⟨_, _, rfl⟩ fX11_ok nX11_ok aX11_ok iX11_ok lX11_ok (fun p e R s m args below meth c Q D cy z r A C hR1 hR2 => List.forall_mem_cons.mpr ⟨cOK_use (fun _ _ _ _ _ _ _ _ h => let ⟨sp, h1, h2, h3⟩ := u_wpo l hlt _ _ _ _ _ _ _ _ h; ⟨sp, cOKx_V C h1 vX11_send_108 ⟨by decide, by decide, by decide +kernel⟩ ⟨by rw [hR1]; decide, by rw [hR2]; decide⟩ (k := 12) (T := TX11) (N := 15) rfl (by decide) h2, h3⟩), List.forall_mem_cons.mpr ⟨cOK_use (fun _ _ _ _ _ _ _ _ h => let ⟨sp, h1, _, h3⟩ := u_wrq l hlt _ _ _ _ _ _ _ _ h; ⟨sp, cOKx_S C h1 vX11_send_104 ⟨by decide, by decide, by decide +kernel⟩ ⟨by rw [hR1]; decide, by rw [hR2]; decide⟩, h3⟩), List.forall_mem_cons.mpr ⟨cOK_use (fun _ _ _ _ _ _ _ _ h => let ⟨sp, h1, h2, h3⟩ := u_wso9 l hlt _ _ _ _ _ _ _ _ h; ⟨sp, cOKx_V C h1 vX11_send_242 ⟨by decide, by decide, by decide +kernel⟩ ⟨by rw [hR1]; decide, by rw [hR2]; decide⟩ (k := 12) (T := TX11) (N := 15) rfl (by decide) h2, h3⟩), List.forall_mem_cons.mpr ⟨cOK_use (fun _ _ _ _ _ _ _ _ h => let ⟨sp, h1, h2, h3⟩ := u_wga l _ _ _ _ _ _ _ _ h; ⟨sp, cOK_V C h1 vX11_send_250 ⟨by decide, by decide, by decide +kernel⟩ ⟨by rw [hR1]; decide, by rw [hR2]; decide⟩ (k := 10) (T := TX9) (N := 15) rfl (by decide) h2, h3⟩), List.forall_mem_cons.mpr ⟨cOK_use (fun _ _ _ _ _ _ _ _ h => let ⟨sp, h1, h2, h3⟩ := u_wco l _ _ _ _ _ _ _ _ h; ⟨sp, cOK_V C h1 vX11_send_254 ⟨by decide, by decide, by decide +kernel⟩ ⟨by rw [hR1]; decide, by rw [hR2]; decide⟩ (k := 10) (T := TX9) (N := 15) rfl (by decide) h2, h3⟩), List.forall_mem_cons.mpr ⟨cOK_use (fun _ _ _ _ _ _ _ _ h => let ⟨sp, h1, h2, h3⟩ := u_bclr l _ _ _ _ _ _ _ _ h; ⟨sp, cOK_V C h1 vX11_send_133 ⟨by decide, by decide, by decide +kernel⟩ ⟨by rw [hR1]; decide, by rw [hR2]; decide⟩ (k := 2) (T := TX1) (N := 3) rfl (by decide) h2, h3⟩), List.forall_mem_cons.mpr ⟨cOK_use (fun _ _ _ _ _ _ _ _ h => let ⟨sp, h1, h2, h3⟩ := u_brng l _ _ _ _ _ _ _ _ h; ⟨sp, cOK_V C h1 vX11_send_261 ⟨by decide, by decide, by decide +kernel⟩ ⟨by rw [hR1]; decide, by rw [hR2]; decide⟩ (k := 2) (T := TX1) (N := 3) rfl (by decide) h2, h3⟩), fun _ h => absurd h List.not_mem_nil⟩⟩⟩⟩⟩⟩⟩) qX11_ok gX11_ok (fun q hq => ⟨thX11_ok q hq, by decide, by decide⟩) ?_ ?_
  · rintro _ S ⟨rfl, hp⟩
    refine ⟨Nat.le_of_ble_eq_true rfl, 300, ?_⟩
    show (0 = 0 ∧ (∃ (F_1 : Nat → Nat × Nat) (z_2 : Nat → Nat), (SfA S F_1 t z_2) ∧ 0 + 1 ≤ snC kz Q p x s + 4 ∧ 0 + 6 ≤ snZ kz Q p x s + 24 ∧ ((∀ (x_4 : Option Nat) (S_3 : MM), (S_3 = S ∧ ∃ n, n < 4 ∧ p = nI n ∧ x_4 = some (z_2 (30 + n))) → ((x < (-1 : Int32) → (∃ k1, I_sn t p x s F X kz Q S k1 [(0, .inr (.inr (some t))), (1, .inl p), (2, .inl x), (3, .inl s), (4, .inr (.inr x_4))] [.inl (0 : Int32)] S_3 (0 + 1) (0 + 6))) ∧ (¬ x < (-1 : Int32) → (((4 : Int32) ≤ x → (∃ k1, I_sn t p x s F X kz Q S k1 [(0, .inr (.inr (some t))), (1, .inl p), (2, .inl x), (3, .inl s), (4, .inr (.inr x_4))] [.inl (0 : Int32)] S_3 (0 + 1) (0 + 6))) ∧ (¬ (4 : Int32) ≤ x → (∃ k1, I_sn t p x s F X kz Q S k1 [(0, .inr (.inr (some t))), (1, .inl p), (2, .inl x), (3, .inl s), (4, .inr (.inr x_4))] [.inl (1 : Int32)] S_3 (0 + 1) (0 + 6))))))) ∧ ((np 4 p) → mthr (sp_wsd t p x s F X kz Q) [.inr (.inr (some t)), .inl p, .inl x, .inl s] S 1 S (0 + 1) (0 + 6)))))
    obtain ⟨z, hz⟩ := hp
    refine ⟨rfl, F, z, hz.1.1, by omega, by omega, fun v S3 h => ?_, fun h => ⟨Or.inl ⟨rfl, Or.inl h, rfl⟩, by show _ ≤ snC kz Q p x s + 4; omega, by show _ ≤ snZ kz Q p x s + 24; omega⟩⟩
    obtain ⟨rfl, n, hn, rfl, rfl⟩ := h
    have bad : (¬ ∃ o, toO x o) → ∃ k1, I_sn t (nI n) x s F X kz Q S3 k1 [(0, .inr (.inr (some t))), (1, .inl (nI n)), (2, .inl x), (3, .inl s), (4, .inr (.inr (some (z (30 + n)))))] [.inl 0] S3 (0 + 1) (0 + 6) := fun q => ⟨0, 0, n, z, rfl, hz, hn, rfl, Or.inr ⟨rfl, q⟩, rfl, rfl, rfl, rfl, rfl⟩
    refine ⟨fun q => bad (fun ⟨o, e, h4⟩ => ?_), fun q1 => ⟨fun q => bad (fun ⟨o, e, h4⟩ => ?_), fun q2 => ⟨0, 1, n, z, rfl, hz, hn, rfl, Or.inl ⟨rfl, ?_⟩, rfl, rfl, rfl, rfl, rfl⟩⟩⟩
    · cases o with
      | none => rw [e] at q; exact absurd q (by decide)
      | some a =>
        rw [e] at q
        exact absurd (Int32.lt_of_lt_of_le q (show (-1 : Int32) ≤ 0 by decide)) (nI_pos (by have := h4 a rfl; omega))
    · cases o with
      | none => rw [e] at q; exact absurd q (by decide)
      | some a =>
        rw [e] at q
        have := (nI_leI (a := 4) (b := a) (by decide) (by have := h4 a rfl; omega)).1 q
        have := h4 a rfl
        omega
    · by_cases x0 : x < 0
      · exact ⟨none, m1_of q1 x0, fun q w => by cases w⟩
      · obtain ⟨a, ha, rfl⟩ := rng (m := 4) (by decide) x0 q2
        exact ⟨some a, rfl, fun q w => by cases w; exact ha⟩
  · intro av S hpre pc I hI k lo st S1 cs sl h
    obtain ⟨rfl, hp⟩ := hpre
    have hm := look_in hI
    rw [List.mem_singleton] at hm
    cases hm
    obtain ⟨c, n, z, rfl, hz, hn, hpn, hc, rfl, rfl, rfl, rfl, rfl⟩ := h
    refine ⟨300, ?_⟩
    show (2 = 2 ∧ ((c = 0 ∨ c = 1) ∧ 1 + 1 ≤ snC kz Q p x s + 4 ∧ 6 + 6 ≤ snZ kz Q p x s + 24 ∧ ((∀ (S_1 : MM), (S_1 = S ∧ c = 1) → (0 = 0 ∧ (∃ (F_2 : Nat → Nat × Nat) (z_3 : Nat → Nat), (SfA S_1 F_2 t z_3) ∧ 1 + 1 + 1 ≤ snC kz Q p x s + 4 ∧ 6 + 6 + 6 ≤ snZ kz Q p x s + 24 ∧ ((∀ (x_5 : Option Nat) (S_4 : MM), (S_4 = S_1 ∧ ∃ n, n < 8 ∧ s = nI n ∧ x_5 = some (z_3 (20 + n))) → (isO S_4 12 t ∧ (0 = 0 ∧ ((pa (mR S_4 1204 t) fun a_6 => (∃ (F_7 : Nat → Nat × Nat) (j_8 pk_9 pl_10 me_11 : Nat) (a_12 d_13 : Nat → Nat) (V_14 : Nat → List Int32) (cap_15 : Nat → Nat) (M_16 : List Nat) (i_17 : Nat) (A_18 : Nat → Nat) (X_19 : GX) (G_20 : Gr) (T_21 : Tr) (H_22 : List Nat) (W_23 : Nat → Nat) (kn_24 : Nat) (kr_25 : Nat → Nat) (Kn_26 : Nat → Nat → Nat) (oo_27 : Option Nat), (gaQr S_4 F_7 j_8 a_6 pk_9 pl_10 me_11 a_12 d_13 V_14 cap_15 M_16 i_17 A_18 X_19 G_20 T_21 H_22 W_23 (z (30 + n)) kn_24 kr_25 Kn_26 oo_27 x) ∧ 1 + 1 + 1 + (gaC G_20 Kn_26 oo_27 V_14 cap_15 (mN S_4 (a_12 7))) ≤ snC kz Q p x s + 4 ∧ 6 + 6 + 6 + (gaZ G_20 Kn_26 oo_27 V_14 cap_15 (mN S_4 (a_12 7))) ≤ snZ kz Q p x s + 24 ∧ (∀ (S_28 : MM), (gaQ S_4 S_28 F_7 j_8 a_6 pk_9 pl_10 me_11 a_12 V_14 cap_15 G_20 Kn_26 oo_27) → (isO S_28 12 t ∧ (isO S_28 12 t ∧ (0 = 0 ∧ ((pa (mR S_28 1204 t) fun a_29 => ((pa (mR S_28 1201 t) fun a_30 => (∃ (F_31 : Nat → Nat × Nat) (j_32 pk_33 pl_34 me_35 : Nat) (a_36 d_37 : Nat → Nat) (V_38 : Nat → List Int32) (cap_39 : Nat → Nat) (M_40 : List Nat) (d0_41 : Nat) (B0_42 : List Nat), (coR S_28 F_31 j_32 a_29 pk_33 pl_34 me_35 a_36 d_37 V_38 cap_39 M_40 a_30 d0_41 B0_42) ∧ 1 + 1 + 1 + (gaC G_20 Kn_26 oo_27 V_14 cap_15 (mN S_4 (a_12 7))) + (addNC (coA V_38 p).length (mN S_28 d0_41) 0) ≤ snC kz Q p x s + 4 ∧ 6 + 6 + 6 + (gaZ G_20 Kn_26 oo_27 V_14 cap_15 (mN S_4 (a_12 7))) + (addNS (coA V_38 p).length (mN S_28 d0_41) 0) ≤ snZ kz Q p x s + 24 ∧ (∀ (S_43 : MM), (∃ d', App (clr S_28 a_30) S_43 a_30 d0_41 d' [] (coA V_38 p)) → (isO S_43 12 t ∧ (pa (mR S_43 1201 t) fun a_44 => isO S_43 2 a_44 ∧ (((mI S_43 202 a_44) = 0 → (0 = 0 ∧ ((pa x_5 fun a_45 => ((isO S_43 2 a_45) ∧ 1 + 1 + 1 + (gaC G_20 Kn_26 oo_27 V_14 cap_15 (mN S_4 (a_12 7))) + (addNC (coA V_38 p).length (mN S_28 d0_41) 0) ≤ snC kz Q p x s + 4 ∧ 6 + 6 + 6 + (gaZ G_20 Kn_26 oo_27 V_14 cap_15 (mN S_4 (a_12 7))) + (addNS (coA V_38 p).length (mN S_28 d0_41) 0) ≤ snZ kz Q p x s + 24 ∧ ((isO (clr S_43 a_45) 12 t ∧ (isO (clr S_43 a_45) 12 t ∧ (pa (mR (clr S_43 a_45) 1201 t) fun a_47 => isO (clr S_43 a_45) 2 a_47 ∧ (0 = 0 ∧ ((pa x_5 fun a_48 => ((pa (mR (clr S_43 a_45) 1201 t) fun a_49 => (∃ (d_50 df_51 : Nat) (B_52 F_53 : List Nat) (i_54 j_55 : Nat), (By (clr S_43 a_45) a_48 d_50 B_52 ∧ By (clr S_43 a_45) a_49 df_51 F_53 ∧ a_49 ≠ a_48 ∧ df_51 ≠ d_50 ∧ (0 : Int32) = nI i_54 ∧ (mI (clr S_43 a_45) 201 a_47) = nI j_55 ∧ i_54 ≤ 32768 ∧ j_55 ≤ 32768) ∧ 1 + 1 + 1 + (gaC G_20 Kn_26 oo_27 V_14 cap_15 (mN S_4 (a_12 7))) + (addNC (coA V_38 p).length (mN S_28 d0_41) 0) + (addNC (rngV F_53 i_54 (j_55 - i_54)).length (mN (clr S_43 a_45) d_50) B_52.length) ≤ snC kz Q p x s + 4 ∧ 6 + 6 + 6 + (gaZ G_20 Kn_26 oo_27 V_14 cap_15 (mN S_4 (a_12 7))) + (addNS (coA V_38 p).length (mN S_28 d0_41) 0) + (addNS (rngV F_53 i_54 (j_55 - i_54)).length (mN (clr S_43 a_45) d_50) B_52.length) ≤ snZ kz Q p x s + 24 ∧ (∀ (S_56 : MM), (∃ d', App (clr S_43 a_45) S_56 a_48 d_50 d' B_52 (rngV F_53 i_54 (j_55 - i_54))) → (pa x_5 fun a_57 => isO S_56 2 a_57 ∧ (([] : List MV) = [] ∧ mret (some .int) (sp_wsd t p x s F X kz Q) [.inr (.inr (some t)), .inl p, .inl x, .inl s] S (some (.inl (mI S_56 201 a_57))) S_56 (1 + 1 + 1 + (gaC G_20 Kn_26 oo_27 V_14 cap_15 (mN S_4 (a_12 7))) + (addNC (coA V_38 p).length (mN S_28 d0_41) 0) + (addNC (rngV F_53 i_54 (j_55 - i_54)).length (mN (clr S_43 a_45) d_50) B_52.length)) (6 + 6 + 6 + (gaZ G_20 Kn_26 oo_27 V_14 cap_15 (mN S_4 (a_12 7))) + (addNS (coA V_38 p).length (mN S_28 d0_41) 0) + (addNS (rngV F_53 i_54 (j_55 - i_54)).length (mN (clr S_43 a_45) d_50) B_52.length)))))))))))))))))))) ∧ (¬ (mI S_43 202 a_44) = 0 → (mthr (sp_wsd t p x s F X kz Q) [.inr (.inr (some t)), .inl p, .inl x, .inl s] S 0 S_43 (1 + 1 + 1 + (gaC G_20 Kn_26 oo_27 V_14 cap_15 (mN S_4 (a_12 7))) + (addNC (coA V_38 p).length (mN S_28 d0_41) 0) + 1) (6 + 6 + 6 + (gaZ G_20 Kn_26 oo_27 V_14 cap_15 (mN S_4 (a_12 7))) + (addNS (coA V_38 p).length (mN S_28 d0_41) 0) + 6)))))))))))))))))))))) ∧ ((np 8 s) → mthr (sp_wsd t p x s F X kz Q) [.inr (.inr (some t)), .inl p, .inl x, .inl s] S 1 S_1 (1 + 1 + 1) (6 + 6 + 6)))))) ∧ ((c = 0) → mthr (sp_wsd t p x s F X kz Q) [.inr (.inr (some t)), .inl p, .inl x, .inl s] S 1 S (1 + 1) (6 + 6)))))
    have cn : p.toNatClampNeg = n := by rw [hpn]; exact nI_clamp (by omega)
    refine ⟨rfl, hc.elim (fun q => Or.inr q.1) (fun q => Or.inl q.1), by omega, by omega, fun S3 h3 => ?_, fun h0 => ⟨Or.inl ⟨rfl, Or.inr (Or.inl (hc.elim (fun q => absurd (q.1.symm.trans h0) (by decide)) (fun q => q.2))), rfl⟩, by show _ ≤ snC kz Q p x s + 4; omega, by show _ ≤ snZ kz Q p x s + 24; omega⟩⟩
    obtain ⟨rfl, rfl⟩ := h3
    obtain ⟨o, ho⟩ : ∃ o, toO x o := hc.elim (fun q => q.2) (fun q => absurd q.1 (by decide))
    refine ⟨rfl, F, z, hz.1.1, by omega, by omega, fun v S4 h => ?_, fun h => ⟨Or.inl ⟨rfl, Or.inr (Or.inr h), rfl⟩, by show _ ≤ snC kz Q p x s + 4; omega, by show _ ≤ snZ kz Q p x s + 24; omega⟩⟩
    obtain ⟨rfl, i, hi, hsi, rfl⟩ := h
    have ci : s.toNatClampNeg = i := by rw [hsi]; exact nI_clamp (by omega)
    obtain ⟨A, H, W, r, a', d9, ea, kn, kr, cu, hP⟩ := hz.2.1 n hn
    obtain ⟨pl, me, a, d, V, cap, hW, hWn, hWo⟩ := hz.2.2.2.2.2.1
    have wc := hW.2.2.2.2.2.2.2.2.2.1
    have hK : ∀ k, k < 6 → capN (V k).length (cap k) 0 = kz (40 + k) := fun k hk => (wc k hk).2.2.2.2.symm.trans (hWn k hk)
    have r4 : mR S4 1204 t = some (z 4) := hz.1.1.2.2.1 4 (by decide) (by decide) (by decide) (by decide)
    have nf : ∀ {b u v}, F b = (u, v) → u ≠ 23 → (F b).1 ≠ 23 := fun {b u v} e hu w => hu (by rw [e] at w; exact w)
    have gq : gaQr S4 F 23 (z 4) (z 6) pl me a d V cap [] (n + 1) A (X n) (Q.G n) (Q.T n) H W (z (30 + n)) kn kr (Q.Kn n) o x := ⟨⟨hW, hP.gi, by omega, by omega⟩, hP.1.1, hP.1.2.2.2.1, hP.2.2.2.1, nf hP.1.2.1 (by omega), nf hP.2.2.2.2.2.2.1 (by omega), fun q hq => nf (hP.2.2.2.2.2.2.2.1 q hq) (by omega), ho.1, ho.2⟩
    obtain ⟨c1, c2⟩ := ga_cost (G := Q.G n) (Kn := Q.Kn n) (o := o) hK
    have eC : snC kz Q p x s = sdC kz (Q.G n) (Q.Kn n) o + addNC (coA (paF (Q.G n) (Q.Kn n) o) p).length (kz 1) 0 + (if paT (Q.G n) (Q.Kn n) o ≤ 32768 then addNC (coA (paF (Q.G n) (Q.Kn n) o) p).length (kz (20 + i)) 0 else 0) := by unfold snC; rw [cn, ci, toO_sd ho]
    have eZ : snZ kz Q p x s = sdZ kz (Q.G n) (Q.Kn n) o + addNS (coA (paF (Q.G n) (Q.Kn n) o) p).length (kz 1) 0 + (if paT (Q.G n) (Q.Kn n) o ≤ 32768 then addNS (coA (paF (Q.G n) (Q.Kn n) o) p).length (kz (20 + i)) 0 else 0) := by unfold snZ; rw [cn, ci, toO_sd ho]
    have cst : ∀ a d : Nat, a ≤ snC kz Q p x s + 4 → d ≤ snZ kz Q p x s + 24 → a ≤ (sp_wsd t p x s F X kz Q).2.1 [.inr (.inr (some t)), .inl p, .inl x, .inl s] S4 ∧ d ≤ (sp_wsd t p x s F X kz Q).2.2.1 [.inr (.inr (some t)), .inl p, .inl x, .inl s] S4 := fun a d h1 h2 => ⟨h1, h2⟩
    refine ⟨hz.1.1.1, rfl, pa_i r4 ⟨F, 23, z 6, pl, me, a, d, V, cap, [], n + 1, A, X n, Q.G n, Q.T n, H, W, kn, kr, Q.Kn n, o, gq, ?_, ?_, fun S5 h5 => ?_⟩⟩
    · rw [hWo, c1, eC]; omega
    · rw [hWo, c2, eZ]; omega
    · rw [hWo, c1, c2]
      obtain ⟨F5, a5, d5, cap5, g1, g2, g3, g4⟩ := hz.gath hW hWn hWo h5
      have k5 : Keep (fun b => cO (F b).1) S4 S5 := g4.mono (fun b _ e => by show cO (F b).1; rw [e]; exact ⟨by decide, by decide⟩)
      obtain ⟨d1, B1, hB5⟩ := g2.2.2.2.1
      have e1 : sdK kz (Q.G n) (Q.Kn n) o 1 = kz 1 := by unfold sdK; rw [if_neg (by decide), if_neg (by decide)]
      rw [e1] at hB5
      have r45 : mR S5 1204 t = some (z 4) := g2.1.1.2.2.1 4 (by decide) (by decide) (by decide) (by decide)
      have r15 : mR S5 1201 t = some (z 1) := g2.1.1.2.2.1 1 (by decide) (by decide) (by decide) (by decide)
      have nf5 : ∀ {b v}, F5 b = (22, v) → (F5 b).1 ≠ 23 := fun {b v} e w => by rw [e] at w; have w : 22 = 23 := w; exact absurd w (by decide)
      refine ⟨g2.1.1.1, g2.1.1.1, rfl, pa_i r45 (pa_i r15 ⟨F5, 23, z 6, pl, me, a5, d5, _, cap5, _, d1, B1, ⟨g1, hB5.1, nf5 hB5.2.1, nf5 hB5.2.2.1⟩, ?_, ?_, fun S6 h6 => ?_⟩)⟩
      · rw [hB5.2.2.2, eC]; omega
      · rw [hB5.2.2.2, eZ]; omega
      · rw [hB5.2.2.2]
        obtain ⟨d6, h6⟩ := h6
        have hsp := h6.spilt
        obtain ⟨F6, w1, w2, w3, w4⟩ := App.ownC hB5 g2.fo (by decide) h6
        have b6 : Bt S6 F6 22 (z 1) d6 (bPuts [] (coA (paF (Q.G n) (Q.Kn n) o) p)) (snK kz (Q.G n) (Q.Kn n) o p 1) := by unfold snK; rw [upF_s]; exact w1
        have g6 : WTz S6 F6 t z X (snK kz (Q.G n) (Q.Kn n) o p) Q := g2.wire (K' := snK kz (Q.G n) (Q.Kn n) o p) ⟨d6, _, b6⟩ (fun k hk => upF_o hk) w4 w2 w3
        have r16 : mR S6 1201 t = some (z 1) := g6.1.1.2.2.1 1 (by decide) (by decide) (by decide) (by decide)
        have k6 : Keep (fun b => cO (F b).1) S4 S6 := k5.trN w4 (fun b hb e => by show cO (F b).1; rw [← g3 b hb, e]; exact ⟨by decide, by decide⟩)
        have f6 : ∀ b, b ∈ mL S4 → F6 b = F b := fun b hb => (w2 b (g4.1 b hb).1).trans (g3 b hb)
        refine ⟨g6.1.1.1, pa_i r16 ⟨w1.1.1, fun q0 => ?_, fun q0 => ⟨Or.inr ⟨rfl, n, i, o, hn, hpn, ho, hi, hsi, Nat.lt_of_not_le (fun w => q0 (by rw [hsp, if_pos ((paT_co p).1 w)])), F6, ⟨z, g6⟩, f6, k6⟩, cst _ _ (by rw [eC]; omega) (by rw [eZ]; omega)⟩⟩⟩
        have hl : (coA (paF (Q.G n) (Q.Kn n) o) p).length ≤ 32768 := Classical.byContradiction (fun w => by rw [hsp, if_neg w] at q0; exact absurd q0 (by decide))
        have ht : paT (Q.G n) (Q.Kn n) o ≤ 32768 := (paT_co p).2 hl
        rw [if_pos ht] at eC eZ
        obtain ⟨dd, hB⟩ := g6.2.2.2.2.1 i hi
        have ek : snK kz (Q.G n) (Q.Kn n) o p (20 + i) = kz (20 + i) := by
          unfold snK
          rw [upF_o (by omega)]
          unfold sdK
          rw [if_neg (by omega), if_neg (by omega)]
        rw [ek] at hB
        have lL : (bPuts [] (coA (paF (Q.G n) (Q.Kn n) o) p)).length = (coA (paF (Q.G n) (Q.Kn n) o) p).length := by
          rw [bPuts_len (by decide)]
          show min (0 + _) 32768 = _
          omega
        have hP9 : (bPuts [] (coA (paF (Q.G n) (Q.Kn n) o) p)).length ≤ 32768 := by rw [lL]; exact hl
        have oc : ∀ {k b}, isO S6 k b → isO (clr S6 (z (20 + i))) k b := fun h => isO_sI (isO_sI h)
        have kc : Keep (fun b => b = z (20 + i)) S6 (clr S6 (z (20 + i))) := Keep.sI (P := fun b => b = z (20 + i)) (Keep.sI (P := fun b => b = z (20 + i)) Keep.rf rfl) rfl
        have n0 : ∀ {b v}, F6 b = (22, v) → b ≠ z (20 + i) := fun {b v} e w => by
          rw [w, hB.2.1] at e
          injection e with e _
          omega
        have nd : d6 ≠ dd := fun w => by
          have e := w1.2.2.1
          rw [w, hB.2.2.1] at e
          injection e with e _
          omega
        have bw : By (clr S6 (z (20 + i))) (z 1) d6 (bPuts [] (coA (paF (Q.G n) (Q.Kn n) o) p)) := w1.1.keep kc (n0 w1.2.1) (n0 w1.2.2.1)
        have bs : By (clr S6 (z (20 + i))) (z (20 + i)) dd [] := hB.1.clear
        have r17 : mR (clr S6 (z (20 + i))) 1201 t = some (z 1) := r16
        have mB : mN (clr S6 (z (20 + i))) dd = kz (20 + i) := hB.2.2.2
        have cC : addNC (rngV (bPuts [] (coA (paF (Q.G n) (Q.Kn n) o) p)) 0 ((bPuts [] (coA (paF (Q.G n) (Q.Kn n) o) p)).length - 0)).length (mN (clr S6 (z (20 + i))) dd) ([] : List Nat).length = addNC (coA (paF (Q.G n) (Q.Kn n) o) p).length (kz (20 + i)) 0 := by rw [rngV_len, Nat.sub_zero, lL, mB, List.length_nil]
        have cZ : addNS (rngV (bPuts [] (coA (paF (Q.G n) (Q.Kn n) o) p)) 0 ((bPuts [] (coA (paF (Q.G n) (Q.Kn n) o) p)).length - 0)).length (mN (clr S6 (z (20 + i))) dd) ([] : List Nat).length = addNS (coA (paF (Q.G n) (Q.Kn n) o) p).length (kz (20 + i)) 0 := by rw [rngV_len, Nat.sub_zero, lL, mB, List.length_nil]
        refine ⟨rfl, pa_i rfl ⟨hB.1.1, by rw [eC]; omega, by rw [eZ]; omega, oc g6.1.1.1, oc g6.1.1.1, pa_i r17 ⟨bw.1, rfl, pa_i rfl (pa_i r17 ⟨dd, d6, [], bPuts [] (coA (paF (Q.G n) (Q.Kn n) o) p), 0, (bPuts [] (coA (paF (Q.G n) (Q.Kn n) o) p)).length, ⟨bs, bw, n0 w1.2.1, nd, rfl, bw.2.2.2.1, by decide, hP9⟩, by rw [cC, eC]; omega, by rw [cZ, eZ]; omega, fun S8 h8 => ?_⟩)⟩⟩⟩
        obtain ⟨d8, h8⟩ := h8
        rw [cC, cZ]
        rw [Nat.sub_zero, rngV_all hP9] at h8
        obtain ⟨F8, y1, y2, y3, y4⟩ := App.ownC hB g6.fo (by omega) h8
        rw [bPuts_map w1.1.2.2.2.2.2.2.2.1 hP9, List.length_map, lL] at y1
        refine pa_i rfl ⟨y1.1.1, rfl, trivial, ⟨_, rfl, n, i, o, hn, hpn, ho, hi, hsi, ht, y1.1.2.2.2.1, F8, ⟨z, g6.slot hi ⟨d8, by rw [upF_s]; exact y1⟩ (fun l hl => upF_o hl) y4 y2 y3⟩, fun b hb => (y2 b (k6.1 b hb).1).trans (f6 b hb), k6.trN y4 (fun b hb e => ?_)⟩, cst _ _ (by rw [eC]; omega) (by rw [eZ]; omega)⟩
        show cO (F b).1
        rw [← f6 b hb, e]; exact ⟨by omega, by omega⟩
theorem u_wsd (l : Launch) (hlt : l.stackTraces = false) : UsX l yX11_send (Cond.code yX11_send cX11_send 6 (some .int)) (some .int) 8 187 12 T_wsd := by
  intro Rc Rs av S cs sl K Kx h
  unfold T_wsd at h
  split at h
  · rename_i t_o p x s
    obtain ⟨t, rfl, h_1⟩ := pa_of h
    obtain ⟨F, X, kz, Q, hp, hc, hs, hk, hx0, hx1⟩ := h_1
    refine ⟨(sp_wsd t p x s F X kz Q), c_wsd l hlt t p x s F X kz Q, fun _ _ h9 => ⟨_, _, h9.1, h9.2.choose_spec.1.1.1⟩, ⟨rfl, hp⟩, hc, hs, fun v9 S' h8 => by
      obtain ⟨v8, h7, h8⟩ := h8
      cases h7
      exact hk _ _ h8, fun _ _ q => by
      rcases q with ⟨rfl, q⟩ | ⟨rfl, q⟩
      · obtain ⟨q, rfl⟩ := q
        exact hx0 q
      · exact hx1 _ q⟩
  · exact h.elim
