/-! ===== The reference writes a patch: the class's run over its events ===== -/
theorem wN_nI {c : Nat} (h : c < 2147483648) : wN (nI c) = if c < 128 then 1 else if c < 2048 then 2 else if c < 65536 then 3 else 4 := by
  have h1 : (128 : Int32) ≤ nI c ↔ ¬ c < 128 := by rw [← Int32.not_lt, show (128 : Int32) = nI 128 from rfl, nI_ltI (by omega) (by decide)]
  have h2 : (2048 : Int32) ≤ nI c ↔ ¬ c < 2048 := by rw [← Int32.not_lt, show (2048 : Int32) = nI 2048 from rfl, nI_ltI (by omega) (by decide)]
  have h3 : (65536 : Int32) ≤ nI c ↔ ¬ c < 65536 := by rw [← Int32.not_lt, show (65536 : Int32) = nI 65536 from rfl, nI_ltI (by omega) (by decide)]
  unfold wN
  by_cases a1 : c < 128
  · rw [if_pos a1, if_neg (fun q => h1.1 q a1)]
  · rw [if_neg a1, if_pos (h1.2 a1)]
    by_cases a2 : c < 2048
    · rw [if_pos a2, if_neg (fun q => h2.1 q a2)]
    · rw [if_neg a2, if_pos (h2.2 a2)]
      by_cases a3 : c < 65536
      · rw [if_pos a3, if_neg (fun q => h3.1 q a3)]
      · rw [if_neg a3, if_pos (h3.2 a3)]
theorem utf_eq {c : Nat} (h : c < 2000000) : vB (utfV (nI c)) = rU2 c := by
  have z0 : nI c >>> ((6 * nI 0) &&& 31) = nI c := by
    rw [show (6 * nI 0) &&& 31 = 0 from by decide]
    exact Int32.shiftRight_zero
  unfold utfV rU2
  rw [wN_nI (by omega)]
  by_cases a1 : c < 128
  · rw [if_pos a1, if_pos a1, if_pos rfl]; rfl
  · rw [if_neg a1, if_neg a1]
    by_cases a2 : c < 2048
    · rw [if_pos a2, if_pos a2, if_neg (by decide)]
      show [b8 (nI c >>> ((6 * nI 1) &&& 31) ||| utfL 1), b8 (nI c >>> ((6 * nI 0) &&& 31) &&& 63 ||| 128)] = _
      rw [z0, Int32.or_comm (nI c >>> _), Int32.or_comm (nI c &&& 63)]; rfl
    · rw [if_neg a2, if_neg a2]
      by_cases a3 : c < 65536
      · rw [if_pos a3, if_pos a3, if_neg (by decide)]
        show [b8 (nI c >>> ((6 * nI 2) &&& 31) ||| utfL 2), b8 (nI c >>> ((6 * nI 1) &&& 31) &&& 63 ||| 128), b8 (nI c >>> ((6 * nI 0) &&& 31) &&& 63 ||| 128)] = _
        rw [z0, Int32.or_comm (nI c >>> ((6 * nI 2) &&& 31)), Int32.or_comm (nI c >>> _ &&& 63), Int32.or_comm (nI c &&& 63)]; rfl
      · rw [if_neg a3, if_neg a3, if_neg (by decide)]
        show [b8 (nI c >>> ((6 * nI 3) &&& 31) ||| utfL 3), b8 (nI c >>> ((6 * nI 2) &&& 31) &&& 63 ||| 128), b8 (nI c >>> ((6 * nI 1) &&& 31) &&& 63 ||| 128), b8 (nI c >>> ((6 * nI 0) &&& 31) &&& 63 ||| 128)] = _
        rw [z0, Int32.or_comm (nI c >>> ((6 * nI 3) &&& 31)), Int32.or_comm (nI c >>> ((6 * nI 2) &&& 31) &&& 63), Int32.or_comm (nI c >>> ((6 * nI 1) &&& 31) &&& 63), Int32.or_comm (nI c &&& 63)]; rfl
theorem madd_ok {M : List Nat} {a : Nat} (h1 : M.Nodup) (h2 : ∀ x ∈ M, x < 256) (ha : a < 256) : (madd M a).Nodup ∧ ∀ x ∈ madd M a, x < 256 := by
  unfold madd
  split
  · exact ⟨h1, h2⟩
  · next c =>
    refine ⟨List.nodup_append.2 ⟨h1, List.nodup_cons.2 ⟨List.not_mem_nil, List.nodup_nil⟩, fun x hx y hy e => c (by rw [← List.mem_singleton.1 hy, ← e]; exact hx)⟩, fun x hx => ?_⟩
    rcases List.mem_append.1 hx with e | e
    · exact h2 x e
    · rw [List.mem_singleton.1 e]; exact ha
theorem wpM_ok {G : Gr} {M pr : List Nat} (h1 : M.Nodup) (h2 : ∀ x ∈ M, x < 256) : ∀ {j : Nat}, (∀ i, i < j → agI G (pr.getD i 0) < 256) → (wpM G M pr j).Nodup ∧ ∀ x ∈ wpM G M pr j, x < 256
  | 0, _ => ⟨h1, h2⟩
  | j + 1, h => by
    have := wpM_ok h1 h2 (j := j) (fun i hi => h i (by omega))
    exact madd_ok this.1 this.2 (h j (by omega))
theorem wpV_ln {G : Gr} {M pr : List Nat} (h1 : M.Nodup) (h2 : ∀ x ∈ M, x < 256) : ∀ {j : Nat}, (∀ i, i < j → agI G (pr.getD i 0) < 256 ∧ (G.ev (pr.getD i 0)).nu ≤ 8192) → (wpV G M pr j).length ≤ 4 * j
  | 0, _ => Nat.le_refl _
  | j + 1, h => by
    have ih := wpV_ln h1 h2 (j := j) (fun i hi => h i (by omega))
    have hw := wpM_ok (G := G) (pr := pr) h1 h2 (j := j) (fun i hi => (h i (by omega)).1)
    have hl := len_256 hw.1 hw.2
    have hx : (wpM G M pr j).idxOf (agI G (pr.getD j 0)) ≤ (wpM G M pr j).length := List.idxOf_le_length
    have hn := (h j (by omega)).2
    have b1 := vbs_le2 (v := (wpM G M pr j).idxOf (agI G (pr.getD j 0))) (by omega)
    have b2 := vbs_le2 (v := (G.ev (pr.getD j 0)).nu) (by omega)
    rw [wpV, List.length_append, List.length_append]; omega
/-- how long the columns may be -/
def wpB (V : Nat → List Int32) (a b : Nat) : Prop := V 0 = [] ∧ V 4 = [] ∧ (V 1).length ≤ 6 * a ∧ (V 2).length ≤ 66 * a ∧ (V 3).length ≤ 3 * a ∧ (V 5).length ≤ 4 * b
theorem csV_B {G : Gr} (hG : G.ok) {V : Nat → List Int32} {M : List Nat} {a b f l m kd x : Nat} {sb : Option Nat} (h : wpB V a b) (hf : f < G.n) (hix : (G.ev f).ix ≤ 8192) (hm : m ≤ 8192) (hkd : kd < 3) (hx : x ≤ 20000) (h1 : M.Nodup) (h2 : ∀ x ∈ M, x < 256) : wpB (csV G V M (some (f, l, m, kd)) sb (exI x)) (a + 1) b := by
  obtain ⟨c0, c4, c1, c2, c3, c5⟩ := h
  have hag : ∀ {k}, k < G.n → agI G k < 256 := fun {k} hk => hG.ag1 _ (hG.sl1 k hk)
  have hl := len_256 h1 h2
  have hi : M.idxOf (agI G f) ≤ M.length := List.idxOf_le_length
  have hn := nu_le hG hf
  have b1 := vbs_le2 (v := M.idxOf (agI G f)) (by omega)
  have b2 := vbs_le2 (v := (G.ev f).nu) (by omega)
  have b3 := vbs_le2 (v := m) (by omega)
  have p16 := pr16 hG hf
  obtain ⟨n, n1, n2, -⟩ := op_ex (a := (G.ev f).ix) (x := x) (kd := kd) (by omega) hx hkd
  have b4 := vbs_le3 (v := n) (by omega)
  have bp : (wprV G (madd M (agI G f)) f sb).length ≤ 66 := by
    unfold wprV
    split
    · exact Nat.le_trans (vbs_le2 (v := 0) (by decide)) (by decide)
    · have b5 := vbs_le2 (v := 1 + (G.ev f).pr.length) (by omega)
      have mo := madd_ok h1 h2 (hag hf)
      have := wpV_ln (G := G) (pr := (G.ev f).pr) mo.1 mo.2 (j := (G.ev f).pr.length) (fun i hi => by
        have := (hG.pr1 f hf ((G.ev f).pr.getD i 0) (by rw [List.getD_eq_getElem?_getD, List.getElem?_eq_getElem hi]; exact List.getElem_mem _)).1
        exact ⟨hag (by omega), nu_le hG (by omega)⟩)
      rw [List.length_append]; omega
  refine ⟨c0, c4, ?_, ?_, ?_, c5⟩
  · show (V 1 ++ (vbs 4 (nI (M.idxOf (agI G f))) ++ (vbs 4 (nI (G.ev f).nu) ++ vbs 4 (nI m)))).length ≤ _
    rw [List.length_append, List.length_append, List.length_append]; omega
  · show (V 2 ++ wprV G (madd M (agI G f)) f sb).length ≤ _
    rw [List.length_append]; omega
  · show (V 3 ++ vbs 4 (opI (nI (G.ev f).ix - exI x) kd)).length ≤ _
    rw [List.length_append, n2]; omega
theorem csE_ex {G : Gr} {f l m kd x : Nat} (hl : (G.ev l).ix ≤ 8192) (hkd : kd < 3) : ∃ x', x' ≤ 10000 ∧ csE G (some (f, l, m, kd)) (exI x) = exI x' := by
  show ∃ x', x' ≤ 10000 ∧ nI (G.ev l).ix + kdI kd = exI x'
  unfold exI
  rcases (show kd = 0 ∨ kd = 1 ∨ kd = 2 by omega) with e | e | e
  · subst e
    refine ⟨(G.ev l).ix + 2, by omega, ?_⟩
    show nI _ + 1 = _
    rw [nI_1, (nI_dcr ((G.ev l).ix + 1)).2]
  · subst e
    refine ⟨(G.ev l).ix + 1, by omega, ?_⟩
    show nI _ + 0 = _
    rw [Int32.add_zero, (nI_dcr _).2]
  · subst e
    exact ⟨(G.ev l).ix, by omega, (Int32.sub_eq_add_neg _ _).symm⟩
def vE0 : Nat → List Int32 := fun _ => []
/-- an event's character in the text's column -/
def wU (V : Nat → List Int32) : Option Nat → Nat → List Int32
  | none => V
  | some c => updI V 5 (V 5 ++ utfV (nI c))
/-- the class's run over the events, its open span closed -/
def clW (G : Gr) (s : Wt) : Wt := (csV G s.1 s.2.1 s.2.2.1 s.2.2.2.1 s.2.2.2.2, csM G s.2.1 s.2.2.1 s.2.2.2.1, none, csB s.2.2.1 s.2.2.2.1, csE G s.2.2.1 s.2.2.2.2)
theorem lck_isK {G : Gr} {Kn : Nat → Nat → Nat} {o : Option Nat} {k : Nat} : lckB G Kn o k = !isK G (o.map Kn) k := by
  cases o with
  | none => rfl
  | some o =>
    show decide (Kn o (G.ag (G.ev k).sl) ≤ (G.ev k).nu) = !decide ((G.ev k).nu < Kn o (G.ag (G.ev k).sl))
    by_cases c : (G.ev k).nu < Kn o (G.ag (G.ev k).sl)
    · rw [decide_eq_true c, decide_eq_false (by omega)]; rfl
    · rw [decide_eq_false c, decide_eq_true (by omega)]; rfl
theorem gaS_sk {G : Gr} {Kn : Nat → Nat → Nat} {o : Option Nat} {V : Nat → List Int32} {x : Nat} : ∀ {f : Nat}, x ≤ f → (∀ k, x ≤ k → k < f → isK G (o.map Kn) k = true) → gaS G Kn o V f = gaS G Kn o V x
  | 0, h, _ => by rw [show x = 0 by omega]
  | f + 1, h, hk => by
    by_cases c : x = f + 1
    · rw [c]
    · rw [gaS, if_neg (by rw [lck_isK, hk f (by omega) (by omega)]; decide)]
      exact gaS_sk (by omega) (fun k a b => hk k a (by omega))
theorem gaS_st {G : Gr} {Kn : Nat → Nat → Nat} {o : Option Nat} {V : Nat → List Int32} {e : Nat} (h : isK G (o.map Kn) e = false) : gaS G Kn o V (e + 1) = aeS G (gaS G Kn o V e) e := by
  rw [gaS, if_pos (by rw [lck_isK, h]; rfl)]
/-- an event that begins a span -/
theorem aeS_new {G : Gr} {s : Wt} {e : Nat} (h : gsC G s.2.2.1 e = false) : aeS G s e = (wU (clW G s).1 (G.ev e).ch, (clW G s).2.1, some (e, e, 1, if (G.ev e).ch = none then 1 else 0), (clW G s).2.2.2.1, (clW G s).2.2.2.2) := by
  have hn : ¬ gsC G s.2.2.1 e = true := by rw [h]; decide
  have ek : aeK G s.2.2.1 e = (e, 0, if (G.ev e).ch = none then 1 else 0) := by
    unfold aeK
    split
    · rfl
    · next q =>
      rw [q] at hn
      exact if_neg hn
  unfold aeS aeV aeM aeC aeB aeE aeW
  rw [if_neg hn, if_neg hn, if_neg hn, if_neg hn, ek]
  rfl
/-- an event that goes on -/
theorem aeS_on {G : Gr} {s : Wt} {e f l m kd : Nat} (hs : s.2.2.1 = some (f, l, m, kd)) (h : gsB G l m kd e = true) : aeS G s e = (wU s.1 (G.ev e).ch, s.2.1, some (f, e, m + 1, if (G.ev e).ch = none ∧ (G.ev e).ix < (G.ev l).ix then 2 else kd), s.2.2.2.1, s.2.2.2.2) := by
  have hn : gsC G s.2.2.1 e = true := by rw [hs]; exact h
  have ek : aeK G s.2.2.1 e = (f, m, if (G.ev e).ch = none ∧ (G.ev e).ix < (G.ev l).ix then 2 else kd) := by
    rw [hs]
    exact if_pos h
  unfold aeS aeV aeM aeC aeB aeE aeW
  rw [if_pos hn, if_pos hn, if_pos hn, if_pos hn, ek]
  rfl
section WPT
variable (S S1 : MM) (F : Nat → Nat × Nat) (t : Nat) (z : Nat → Nat) (Y : Nat → Nat → Nat) (R : Rb) (kz : Nat → Nat) (p : Nat) (o : Option Nat)
def wpT (s : Wt) : Prop := wpS S S1 F t z Y R kz s.1 s.2.1 s.2.2.2.2
end WPT
def gW (R : Rb) (p : Nat) (o : Option Nat) (e : Nat) : Wt := gaS (R.Q.G p) (R.Q.Kn p) o vE0 e
/-- bounds that last: the index expected, the span before -/
def wpX (n : Nat) (s : Wt) : Prop := (∃ x, x ≤ 10000 ∧ s.2.2.2.2 = exI x) ∧ ∀ q, s.2.2.2.1 = some q → q < n
/-- the spans before e are written -/
def wpO (S S1 : MM) (F : Nat → Nat × Nat) (t : Nat) (z : Nat → Nat) (Y : Nat → Nat → Nat) (R : Rb) (kz : Nat → Nat) (p : Nat) (o : Option Nat) (e : Nat) : Prop := e ≤ (R.Q.G p).n ∧ (e < (R.Q.G p).n → isK (R.Q.G p) (o.map (R.Q.Kn p)) e = false ∧ gsC (R.Q.G p) (gW R p o e).2.2.1 e = false) ∧ wpT S S1 F t z Y R kz (clW (R.Q.G p) (gW R p o e)) ∧ wpB (clW (R.Q.G p) (gW R p o e)).1 e e ∧ wpX (R.Q.G p).n (clW (R.Q.G p) (gW R p o e))
/-- a span is open: its last event e; the next event f -/
def wpN (S S1 : MM) (F : Nat → Nat × Nat) (t : Nat) (z : Nat → Nat) (Y : Nat → Nat → Nat) (R : Rb) (kz : Nat → Nat) (p : Nat) (o : Option Nat) (e f fi m kd : Nat) : Prop := e < (R.Q.G p).n ∧ fi < (R.Q.G p).n ∧ 1 ≤ m ∧ m ≤ e + 1 ∧ bhV (R.Q.G p) (o.map (R.Q.Kn p)) (e + 1) f ∧ (gW R p o (e + 1)).2.2.1 = some (fi, e, m, kd) ∧ kdOk (R.Q.G p) e m kd ∧ kd < 3 ∧ spE (R.Q.G p) fi e m kd ∧ wpT S S1 F t z Y R kz (gW R p o (e + 1)) ∧ wpB (gW R p o (e + 1)).1 e (e + 1) ∧ wpX (R.Q.G p).n (gW R p o (e + 1))
def kRo (Y : Nat → Nat → Nat) (p : Nat) (o : Option Nat) : Option Nat := o.map (fun q => Y p (120 + q))
def I_wp1 (t p : Nat) (r : Option Nat) (F : Nat → Nat × Nat) (z : Nat → Nat) (Y : Nat → Nat → Nat) (R : Rb) (kz : Nat → Nat) (o : Option Nat) (S : MM) (k : Nat) : KT := fun lo st S1 cs sl => ∃ e, k = 1000 + 10 * ((R.Q.G p).n - e) + 9 ∧ wpO S S1 F t z Y R kz p o e ∧ lo = [(0, .inr (.inr (some t))), (1, .inl (nI p)), (2, .inr (.inr r)), (3, .inr (.inr (some (Y p 0)))), (4, .inl (stI (clW (R.Q.G p) (gW R p o e)).2.2.2.1)), (5, .inl (nI e))] ∧ st = [] ∧ cs = 0 ∧ sl = 0
def I_wp2 (t p : Nat) (r : Option Nat) (F : Nat → Nat × Nat) (z : Nat → Nat) (Y : Nat → Nat → Nat) (R : Rb) (kz : Nat → Nat) (o : Option Nat) (S : MM) (k : Nat) : KT := fun lo st S1 cs sl => ∃ e, k = 1000 + 10 * ((R.Q.G p).n - e) + 8 ∧ e < (R.Q.G p).n ∧ wpO S S1 F t z Y R kz p o e ∧ lo = [(0, .inr (.inr (some t))), (1, .inl (nI p)), (2, .inr (.inr r)), (3, .inr (.inr (some (Y p 0)))), (4, .inl (stI (clW (R.Q.G p) (gW R p o e)).2.2.2.1)), (5, .inl (nI e)), (6, .inl (nI e)), (7, .inl (nI 1)), (8, .inl (knd (R.Q.G p) e 1 (if ((R.Q.G p).ev e).ch = none then 1 else 0)))] ∧ st = [] ∧ cs = 0 ∧ sl = 0
def I_wp3 (t p : Nat) (r : Option Nat) (F : Nat → Nat × Nat) (z : Nat → Nat) (Y : Nat → Nat → Nat) (R : Rb) (kz : Nat → Nat) (o : Option Nat) (S : MM) (k : Nat) : KT := fun lo st S1 cs sl => ∃ e f fi m kd, k = 1000 + 10 * ((R.Q.G p).n - e) + 5 ∧ wpN S S1 F t z Y R kz p o e f fi m kd ∧ lo = [(0, .inr (.inr (some t))), (1, .inl (nI p)), (2, .inr (.inr r)), (3, .inr (.inr (some (Y p 0)))), (4, .inl (stI (gW R p o (e + 1)).2.2.2.1)), (5, .inl (nI e)), (6, .inl (nI fi)), (7, .inl (nI m)), (8, .inl (knd (R.Q.G p) e m kd)), (9, .inl (nI f))] ∧ st = [] ∧ cs = 0 ∧ sl = 0
/-- the kind behind an event that goes on -/
def kdN (G : Gr) (e f kd : Nat) : Nat := if (G.ev f).ch = none ∧ (G.ev f).ix < (G.ev e).ix then 2 else kd
def I_wp4 (t p : Nat) (r : Option Nat) (F : Nat → Nat × Nat) (z : Nat → Nat) (Y : Nat → Nat → Nat) (R : Rb) (kz : Nat → Nat) (o : Option Nat) (S : MM) (k : Nat) : KT := fun lo st S1 cs sl => ∃ e f fi m kd, k = 1000 + 10 * ((R.Q.G p).n - e) + 4 ∧ wpN S S1 F t z Y R kz p o e f fi m kd ∧ f < (R.Q.G p).n ∧ gsB (R.Q.G p) e m kd f = true ∧ lo = [(0, .inr (.inr (some t))), (1, .inl (nI p)), (2, .inr (.inr r)), (3, .inr (.inr (some (Y p 0)))), (4, .inl (stI (gW R p o (e + 1)).2.2.2.1)), (5, .inl (nI e)), (6, .inl (nI fi)), (7, .inl (nI m)), (8, .inl (nI (kdN (R.Q.G p) e f kd))), (9, .inl (nI f))] ∧ st = [] ∧ cs = 0 ∧ sl = 0
def I_wp5 (t p : Nat) (r : Option Nat) (F : Nat → Nat × Nat) (z : Nat → Nat) (Y : Nat → Nat → Nat) (R : Rb) (kz : Nat → Nat) (o : Option Nat) (S : MM) (k : Nat) : KT := fun lo st S1 cs sl => ∃ e f fi m kd, k = 1000 + 10 * ((R.Q.G p).n - e) + 3 ∧ wpN S S1 F t z Y R kz p o e f fi m kd ∧ (f < (R.Q.G p).n → gsB (R.Q.G p) e m kd f = false) ∧ lo = [(0, .inr (.inr (some t))), (1, .inl (nI p)), (2, .inr (.inr r)), (3, .inr (.inr (some (Y p 0)))), (4, .inl (stI (gW R p o (e + 1)).2.2.2.1)), (5, .inl (nI e)), (6, .inl (nI fi)), (7, .inl (nI m)), (8, .inl (nI kd)), (9, .inl (nI f))] ∧ st = [] ∧ cs = 0 ∧ sl = 0
/-- the columns behind the events, with the first n agents of the table -/
def wpA (R : Rb) (p : Nat) (o : Option Nat) (n : Nat) : Nat → List Int32 := gaA (R.Q.G p) (R.Q.Kn p) o vE0 n
def wpL (R : Rb) (p : Nat) (o : Option Nat) : List Nat := gaM (R.Q.G p) (R.Q.Kn p) o vE0
def I_wp6 (t p : Nat) (F : Nat → Nat × Nat) (z : Nat → Nat) (Y : Nat → Nat → Nat) (R : Rb) (kz : Nat → Nat) (o : Option Nat) (S : MM) (k : Nat) : KT := fun lo st S1 cs sl => ∃ j ex, k = 300 + ((wpL R p o).length - j) ∧ j ≤ (wpL R p o).length ∧ wpS S S1 F t z Y R kz (wpA R p o j) (wpL R p o) ex ∧ (wpA R p o j 0).length ≤ 2 + 2 * j ∧ wpB (gaV (R.Q.G p) (R.Q.Kn p) o vE0) (R.Q.G p).n (R.Q.G p).n ∧ lo = [(0, .inr (.inr (some t))), (1, .inl (nI p)), (6, .inl (nI j))] ∧ st = [] ∧ cs = 0 ∧ sl = 0
def wpF (R : Rb) (p : Nat) (o : Option Nat) : Nat → List Int32 := gaF (R.Q.G p) (R.Q.Kn p) o vE0
def I_wp7 (t p : Nat) (F : Nat → Nat × Nat) (z : Nat → Nat) (Y : Nat → Nat → Nat) (R : Rb) (kz : Nat → Nat) (o : Option Nat) (S : MM) (k : Nat) : KT := fun lo st S1 cs sl => ∃ ex, k = 100 ∧ wpS S S1 F t z Y R kz (wpF R p o) (wpL R p o) ex ∧ (wpF R p o 0).length + (wpF R p o 1).length + (wpF R p o 2).length + (wpF R p o 3).length + (wpF R p o 4).length ≤ 900000 ∧ lo = [(0, .inr (.inr (some t))), (1, .inl (nI p))] ∧ st = [] ∧ cs = 0 ∧ sl = 0
/-- the message before its checksum -/
def rmB (V : Nat → List Int32) (p : Nat) : Nat → List Nat
  | 0 => [87, 1, p]
  | n + 1 => rmB V p n ++ (vbN 5 (V n).length ++ clp (vB (V n)))
def rmA (V : Nat → List Int32) (p : Nat) : List Nat := rmB V p 5 ++ (List.range 4).map (clB (crB (rmB V p 5) (rmB V p 5).length ^^^ -1))
def wpQ9 (S S' : MM) (F : Nat → Nat × Nat) (t : Nat) (z : Nat → Nat) (Y : Nat → Nat → Nat) (R : Rb) (kz : Nat → Nat) : Prop := MD S' F t z Y R kz ∧ Keep (wO F) S S' ∧ mI S' 1551 t = mI S 1551 t
theorem MD.o14 {S : MM} {F : Nat → Nat × Nat} {t : Nat} {z : Nat → Nat} {Y : Nat → Nat → Nat} {R : Rb} {kz : Nat → Nat} (h : MD S F t z Y R kz) {k : Nat} (hk : otK k) : isO S 14 (z k) := by
  obtain ⟨-, -, -, B, hB⟩ := h 10 k hk
  exact hB.1
theorem MD.kno {S : MM} {F : Nat → Nat × Nat} {t : Nat} {z : Nat → Nat} {Y : Nat → Nat → Nat} {R : Rb} {kz : Nat → Nat} (h : MD S F t z Y R kz) {p : Nat} {o : Option Nat} (hp : p < 4) (ho : ∀ q, o = some q → q < 4) : knO S (kRo Y p o) (o.map (R.Q.Kn p)) := by
  cases o with
  | none => exact Or.inl ⟨rfl, rfl⟩
  | some q =>
    obtain ⟨-, a2, -, a4, a5⟩ := (h 2 p hp).2.2.1 q (ho q rfl)
    exact Or.inr ⟨_, _, rfl, rfl, a2, a4, a5⟩
theorem MD.rs {S : MM} {F : Nat → Nat × Nat} {t : Nat} {z : Nat → Nat} {Y : Nat → Nat → Nat} {R : Rb} {kz : Nat → Nat} (h : MD S F t z Y R kz) {l : List Nat} (hl : ∀ k, k ∈ l → k < 6 ∧ Ou S (z (25 + k)) (z (70 + (25 + k))) []) {k0 : Nat} (h0 : k0 < 6) : MD (sI S 1401 (z (25 + k0)) 0) F t z Y R kz ∧ (∀ k, k ∈ k0 :: l → k < 6 ∧ Ou (sI S 1401 (z (25 + k0)) 0) (z (25 + k)) (z (70 + (25 + k))) []) ∧ Keep (wO F) S (sI S 1401 (z (25 + k0)) 0) := by
  obtain ⟨b1, b2, b3, B, hB⟩ := h 10 (25 + k0) (Or.inr (by omega))
  have o0 : Ou (sI S 1401 (z (25 + k0)) 0) (z (25 + k0)) (z (70 + (25 + k0))) [] := ⟨hB.1, hB.2.1, hB.2.2.1, hB.2.2.2.1, by rw [mI_sI, if_pos ⟨rfl, rfl⟩]; rfl, Nat.zero_le _, (fun x hx => by cases hx), hB.2.2.2.2.2.2.2.1, (fun j hj => absurd hj (Nat.not_lt_zero j))⟩
  have kp : Keep (fun c => c = z (25 + k0) ∨ c = z (70 + (25 + k0))) S (sI S 1401 (z (25 + k0)) 0) := Keep.sI (P := fun c => c = z (25 + k0) ∨ c = z (70 + (25 + k0))) Keep.rf (Or.inl rfl)
  refine ⟨(h.out (k0 := 25 + k0) (Or.inr (by omega)) kp o0).1, fun k hk => ?_, kp.mono (fun b _ q => ?_)⟩
  · rcases List.mem_cons.1 hk with e | e
    · rw [e]; exact ⟨h0, o0⟩
    · obtain ⟨c1, c2⟩ := hl k e
      refine ⟨c1, ?_⟩
      by_cases c : k = k0
      · rw [c]; exact o0
      · obtain ⟨-, a2, a3, -⟩ := h 10 (25 + k) (Or.inr (by omega))
        have no : ∀ {x v}, F x = (110, v) → v ≠ 25 + k0 → v ≠ 100 + (25 + k0) → ¬ (x = z (25 + k0) ∨ x = z (70 + (25 + k0))) := fun {x v} e h1 h2 q => by
          rcases q with q | q
          · rw [q, b2] at e
            injection e with _ e
            omega
          · rw [q, b3] at e
            injection e with _ e
            omega
        exact c2.kp kp (no a2 (by omega) (by omega)) (no a3 (by omega) (by omega))
  · rcases q with e | e
    · rw [e]; exact Or.inr (by rw [b2])
    · rw [e]; exact Or.inr (by rw [b3])
theorem updI_id {V : Nat → List Int32} {k : Nat} : updI V k (V k) = V := by
  funext i
  unfold updI
  split
  · next e => rw [e]
  · rfl
theorem wpS.wr {S S1 S2 : MM} {F : Nat → Nat × Nat} {t : Nat} {z : Nat → Nat} {Y : Nat → Nat → Nat} {R : Rb} {kz : Nat → Nat} {V : Nat → List Int32} {M : List Nat} {ex : Int32} {oc : Option Nat} (h : wpS S S1 F t z Y R kz V M ex) (hQ : ouQ S1 S2 F t z Y R kz 30 (vB (V 5) ++ rU1 oc)) (hc : ∀ c, oc = some c → c < 2000000) : wpS S S2 F t z Y R kz (wU V oc) M ex := by
  obtain ⟨-, q2, q3⟩ := hQ
  cases oc with
  | none =>
    have q2 : Ou S2 (z 30) (z (70 + 30)) (vB (V 5) ++ []) := q2
    rw [List.append_nil] at q2
    have := h.out (k0 := 5) (by decide) q2 q3
    rw [updI_id] at this
    exact this
  | some c =>
    have q2 : Ou S2 (z 30) (z (70 + 30)) (vB (V 5) ++ rU2 c) := q2
    rw [← utf_eq (hc c rfl), ← vB_app] at q2
    exact h.out (k0 := 5) (by decide) q2 q3
theorem wpB.wr {V : Nat → List Int32} {a b : Nat} {oc : Option Nat} (h : wpB V a b) : wpB (wU V oc) a (b + 1) := by
  obtain ⟨c0, c4, c1, c2, c3, c5⟩ := h
  cases oc with
  | none => exact ⟨c0, c4, c1, c2, c3, by show (V 5).length ≤ _; omega⟩
  | some c =>
    have := wN_le (nI c)
    refine ⟨c0, c4, c1, c2, c3, ?_⟩
    show (V 5 ++ utfV (nI c)).length ≤ _
    rw [List.length_append, utfV_len]; omega
theorem wpB.mono {V : Nat → List Int32} {a b a' b' : Nat} (h : wpB V a b) (h1 : a ≤ a') (h2 : b ≤ b') : wpB V a' b' := by
  obtain ⟨c0, c4, c1, c2, c3, c5⟩ := h
  exact ⟨c0, c4, by omega, by omega, by omega, by omega⟩
theorem OuC.k21 {S1 S2 : MM} {F : Nat → Nat × Nat} {t : Nat} {z : Nat → Nat} {Y : Nat → Nat → Nat} {R : Rb} {kz : Nat → Nat} {V : Nat → List Int32} (h : OuC S1 z V) (hM : MD S1 F t z Y R kz) (hk : Keep (fun c => c = z 21 ∨ c = z (70 + 21)) S1 S2) : OuC S2 z V := fun k hk9 => by
  obtain ⟨-, b2, b3, -⟩ := hM 10 21 (Or.inl rfl)
  obtain ⟨-, a2, a3, -⟩ := hM 10 (25 + k) (Or.inr (by omega))
  have no : ∀ {x v}, F x = (110, v) → v ≠ 21 → v ≠ 121 → ¬ (x = z 21 ∨ x = z (70 + 21)) := fun {x v} e h1 h2 q => by
    rcases q with q | q
    · rw [q, b2] at e
      injection e with _ e
      omega
    · rw [q, b3] at e
      injection e with _ e
      omega
  exact (h k hk9).kp hk (no a2 (by omega) (by omega)) (no a3 (by omega) (by omega))
/-- the message is being composed -/
def cmS (S S1 : MM) (F : Nat → Nat × Nat) (t : Nat) (z : Nat → Nat) (Y : Nat → Nat → Nat) (R : Rb) (kz : Nat → Nat) (V : Nat → List Int32) (B : List Nat) : Prop := MD S1 F t z Y R kz ∧ OuC S1 z V ∧ Ou S1 (z 21) (z (70 + 21)) B ∧ Keep (wO F) S S1 ∧ mI S1 1551 t = mI S 1551 t
theorem cmS.st {S S1 S2 : MM} {F : Nat → Nat × Nat} {t : Nat} {z : Nat → Nat} {Y : Nat → Nat → Nat} {R : Rb} {kz : Nat → Nat} {V : Nat → List Int32} {B : List Nat} (hM : MD S1 F t z Y R kz) (hC : OuC S1 z V) (hK : Keep (wO F) S S1) (h51 : mI S1 1551 t = mI S 1551 t) (ho : Ou S2 (z 21) (z (70 + 21)) B) (hk : Keep (fun c => c = z 21 ∨ c = z (70 + 21)) S1 S2) : cmS S S2 F t z Y R kz V B := by
  obtain ⟨m2, e2, -⟩ := hM.out (k0 := 21) (Or.inl rfl) hk ho
  obtain ⟨-, b2, b3, -⟩ := hM 10 21 (Or.inl rfl)
  refine ⟨m2, hC.k21 hM hk, ho, Keep.trN hK hk (fun b _ q => ?_), e2.trans h51⟩
  rcases q with e | e
  · rw [e]; exact Or.inr (by rw [b2])
  · rw [e]; exact Or.inr (by rw [b3])
theorem cmS.pre {S S1 : MM} {F : Nat → Nat × Nat} {t : Nat} {z : Nat → Nat} {Y : Nat → Nat → Nat} {R : Rb} {kz : Nat → Nat} {V : Nat → List Int32} {B : List Nat} (h : cmS S S1 F t z Y R kz V B) {k : Nat} (hk : k < 6) (hl : B.length + 5 + (V k).length ≤ 1000000) : Ou S1 (z 21) (z (70 + 21)) B ∧ Ou S1 (z (25 + k)) (z (70 + (25 + k))) (vB (V k)) ∧ z 21 ≠ z (25 + k) ∧ z (70 + 21) ≠ z (70 + (25 + k)) ∧ B.length + 5 + (vB (V k)).length ≤ 1000000 := by
  obtain ⟨hM, hC, hO, -, -⟩ := h
  obtain ⟨-, b2, b3, -⟩ := hM 10 21 (Or.inl rfl)
  obtain ⟨-, a2, a3, -⟩ := hM 10 (25 + k) (Or.inr (by omega))
  refine ⟨hO, hC k hk, fun e => ?_, fun e => ?_, by rw [vB_len]; exact hl⟩
  · rw [e, a2] at b2
    injection b2 with _ b2
    omega
  · rw [e, a3] at b3
    injection b3 with _ b3
    omega
theorem cmS.col {S S1 S2 : MM} {F : Nat → Nat × Nat} {t : Nat} {z : Nat → Nat} {Y : Nat → Nat → Nat} {R : Rb} {kz : Nat → Nat} {V : Nat → List Int32} {p n : Nat} (h : cmS S S1 F t z Y R kz V (rmB V p n)) (hq : ouP S1 S2 (z 21) (z (70 + 21)) (rmB V p n ++ (vbN 5 (vB (V n)).length ++ clp (vB (V n))))) : cmS S S2 F t z Y R kz V (rmB V p (n + 1)) := by
  obtain ⟨hM, hC, -, hK, h51⟩ := h
  obtain ⟨o, k⟩ := hq
  rw [vB_len] at o
  exact cmS.st hM hC hK h51 o k
theorem rmB_len (V : Nat → List Int32) (p n : Nat) : (rmB V p (n + 1)).length ≤ (rmB V p n).length + 5 + (V n).length := by
  have := vbN_len 5 (V n).length
  rw [rmB, List.length_append, List.length_append, clp_len, vB_len]; omega
def T_rwp : TR := fun Rc Rs av S cs sl K Kx => match av with
  | [.inr (.inr t_o), .inl p_v, .inr (.inr r)] => pa t_o fun t => (∃ (p : Nat), p_v = nI p ∧ (∃ (F : Nat → Nat × Nat) (z : Nat → Nat) (Y : Nat → Nat → Nat) (R : Rb) (kz : Nat → Nat) (o : Option Nat), (MD S F t z Y R kz ∧ AbC R ∧ p < 4 ∧ (∀ q, o = some q → q < 4) ∧ r = kRo Y p o) ∧ cs + 1 ≤ Rc ∧ sl + 6 ≤ Rs ∧ ((∀ (S' : MM), (wpQ9 S S' F t z Y R kz ∧ (rmB (wpF R p o) p 5).length + 4 ≤ 32768 ∧ Ou S' (z 21) (z (70 + 21)) (rmA (wpF R p o) p)) → K none S' (cs + 1) (sl + 6)) ∧ (∀ (S' : MM), (wpQ9 S S' F t z Y R kz ∧ 32768 < (rmB (wpF R p o) p 5).length + 4) → Kx 0 S' (cs + 1) (sl + 6)))))
  | _ => False
def sp_rwp (t : Nat) (p : Nat) (r : Option Nat) (F : Nat → Nat × Nat) (z : Nat → Nat) (Y : Nat → Nat → Nat) (R : Rb) (kz : Nat → Nat) (o : Option Nat) : Sp := (fun av S => av = [.inr (.inr (some t)), .inl (nI p), .inr (.inr r)] ∧ (MD S F t z Y R kz ∧ AbC R ∧ p < 4 ∧ (∀ q, o = some q → q < 4) ∧ r = kRo Y p o), fun _ S => 1, fun _ S => 6, fun _ S rv S' => rv = none ∧ (wpQ9 S S' F t z Y R kz ∧ (rmB (wpF R p o) p 5).length + 4 ≤ 32768 ∧ Ou S' (z 21) (z (70 + 21)) (rmA (wpF R p o) p)), fun _ S E S' => (E = 0 ∧ (wpQ9 S S' F t z Y R kz ∧ 32768 < (rmB (wpF R p o) p 5).length + 4)))
def tX14_writePatch : CD := [(0, .aload_n 0), (1, .getfield 11), (4, .iload_n 1), (5, .aaload), (6, .astore_n 3), (7, .aload_n 0), (8, .getfield 76), (11, .iconst 0), (12, .putfield 309), (15, .aload_n 0), (16, .getfield 79), (19, .iconst 0), (20, .putfield 309), (23, .aload_n 0), (24, .getfield 82), (27, .iconst 0), (28, .putfield 309), (31, .aload_n 0), (32, .getfield 85), (35, .iconst 0), (36, .putfield 309), (39, .aload_n 0), (40, .getfield 88), (43, .iconst 0), (44, .putfield 309), (47, .aload_n 0), (48, .getfield 91), (51, .iconst 0), (52, .putfield 309), (55, .aload_n 0), (56, .iconst 0), (57, .putfield 332), (60, .aload_n 0), (61, .iconst 0), (62, .putfield 348), (65, .iconst (-1)), (66, .istore 4), (68, .aload_n 3), (69, .iconst (-1)), (70, .aload_n 2), (71, .invokestatic 351), (74, .istore 5), (76, .iload 5), (78, .aload_n 3), (79, .getfield 173), (82, .if_icmp .ge 144), (85, .iload 5), (87, .istore 6), (89, .iconst 1), (90, .istore 7), (92, .aload_n 3), (93, .getfield 339), (96, .iload 5), (98, .baload), (99, .ifCond .eq 7), (102, .iconst 0), (103, .goto 4), (106, .iconst (-1)), (107, .istore 8), (109, .aload_n 0), (110, .aload_n 3), (111, .iload 5), (113, .invokevirtual 355), (116, .aload_n 3), (117, .iload 5), (119, .aload_n 2), (120, .invokestatic 351), (123, .istore 9), (125, .aload_n 0), (126, .aload_n 3), (127, .iload 5), (129, .iload 9), (131, .iload 8), (133, .invokevirtual 359), (136, .ifCond .eq 58), (139, .iload 8), (141, .ifCond .ge 27), (144, .aload_n 3), (145, .getfield 345), (148, .iload 9), (150, .iaload), (151, .aload_n 3), (152, .getfield 345), (155, .iload 5), (157, .iaload), (158, .if_icmp .ne 7), (161, .iconst 1), (162, .goto 4), (165, .iconst 2), (166, .istore 8), (168, .aload_n 0), (169, .aload_n 3), (170, .iload 9), (172, .invokevirtual 355), (175, .iinc 7 1), (178, .iload 9), (180, .istore 5), (182, .aload_n 3), (183, .iload 5), (185, .aload_n 2), (186, .invokestatic 351), (189, .istore 9), (191, .goto (-66)), (194, .iload 8), (196, .ifCond .ge 6), (199, .iconst 1), (200, .istore 8), (202, .aload_n 0), (203, .aload_n 3), (204, .iload 6), (206, .iload 7), (208, .iload 8), (210, .iload 4), (212, .invokevirtual 363), (215, .iload 5), (217, .istore 4), (219, .iload 9), (221, .istore 5), (223, .goto (-147)), (226, .aload_n 0), (227, .getfield 76), (230, .aload_n 0), (231, .getfield 332), (234, .i2l), (235, .invokevirtual 326), (238, .iconst 0), (239, .istore 6), (241, .iload 6), (243, .aload_n 0), (244, .getfield 332), (247, .if_icmp .ge 24), (250, .aload_n 0), (251, .getfield 76), (254, .aload_n 0), (255, .getfield 94), (258, .iload 6), (260, .iaload), (261, .i2l), (262, .invokevirtual 326), (265, .iinc 6 1), (268, .goto (-27)), (271, .aload_n 0), (272, .invokevirtual 367), (275, .aload_n 0), (276, .iconst 1), (277, .iload_n 1), (278, .invokevirtual 323), (281, .aload_n 0), (282, .getfield 63), (285, .aload_n 0), (286, .getfield 76), (289, .invokevirtual 370), (292, .aload_n 0), (293, .getfield 63), (296, .aload_n 0), (297, .getfield 79), (300, .invokevirtual 370), (303, .aload_n 0), (304, .getfield 63), (307, .aload_n 0), (308, .getfield 82), (311, .invokevirtual 370), (314, .aload_n 0), (315, .getfield 63), (318, .aload_n 0), (319, .getfield 85), (322, .invokevirtual 370), (325, .aload_n 0), (326, .getfield 63), (329, .aload_n 0), (330, .getfield 88), (333, .invokevirtual 370), (336, .aload_n 0), (337, .getfield 63), (340, .getfield 309), (343, .iconst 4), (344, .iadd), (345, .ldc 15), (347, .if_icmp .le 11), (350, .new 156), (353, .dup), (354, .invokespecial 158), (357, .athrow), (358, .aload_n 0), (359, .invokevirtual 329), (362, .return_)]
set_option maxRecDepth 100000 in
theorem kX14_writePatch : chk cX14_writePatch tX14_writePatch = true := by decide +kernel
theorem vX14_writePatch_351 : ∀ w ∈ ([.methodLink RX14 351 yX14_behind, .static yX14_behind, .initialized yX14_behind.cls, .code yX14_behind cX14_behind 4 (some .int)] : List Cond), w ∈ lw_good := List.forall_mem_cons.mpr ⟨mgd 2285 (by decide +kernel) (by decide +kernel), List.forall_mem_cons.mpr ⟨mgd 2286 (by decide +kernel) (by decide +kernel), List.forall_mem_cons.mpr ⟨mgd 136 (by decide +kernel) (by decide +kernel), List.forall_mem_cons.mpr ⟨mgd 2287 (by decide +kernel) (by decide +kernel), fun _ h => absurd h List.not_mem_nil⟩⟩⟩⟩
theorem vX14_writePatch_355 : ∀ w ∈ ([.methodLink RX14 355 yX14_write, .instanceMethod yX14_write, .selects yX14_write.cls yX14_write yX14_write, .initialized yX14_write.cls, .code yX14_write cX14_write 4 none] : List Cond), w ∈ lw_good := List.forall_mem_cons.mpr ⟨mgd 2291 (by decide +kernel) (by decide +kernel), List.forall_mem_cons.mpr ⟨mgd 2293 (by decide +kernel) (by decide +kernel), List.forall_mem_cons.mpr ⟨mgd 90 (by decide +kernel) (by decide +kernel), List.forall_mem_cons.mpr ⟨mgd 136 (by decide +kernel) (by decide +kernel), List.forall_mem_cons.mpr ⟨mgd 2294 (by decide +kernel) (by decide +kernel), fun _ h => absurd h List.not_mem_nil⟩⟩⟩⟩⟩
theorem vX14_writePatch_359 : ∀ w ∈ ([.methodLink RX14 359 yX14_goesOn, .instanceMethod yX14_goesOn, .selects yX14_goesOn.cls yX14_goesOn yX14_goesOn, .initialized yX14_goesOn.cls, .code yX14_goesOn cX14_goesOn 6 (some .boolean)] : List Cond), w ∈ lw_good := List.forall_mem_cons.mpr ⟨mgd 2295 (by decide +kernel) (by decide +kernel), List.forall_mem_cons.mpr ⟨mgd 2297 (by decide +kernel) (by decide +kernel), List.forall_mem_cons.mpr ⟨mgd 91 (by decide +kernel) (by decide +kernel), List.forall_mem_cons.mpr ⟨mgd 136 (by decide +kernel) (by decide +kernel), List.forall_mem_cons.mpr ⟨mgd 2298 (by decide +kernel) (by decide +kernel), fun _ h => absurd h List.not_mem_nil⟩⟩⟩⟩⟩
theorem vX14_writePatch_363 : ∀ w ∈ ([.methodLink RX14 363 yX14_span, .instanceMethod yX14_span, .selects yX14_span.cls yX14_span yX14_span, .initialized yX14_span.cls, .code yX14_span cX14_span 8 none] : List Cond), w ∈ lw_good := List.forall_mem_cons.mpr ⟨mgd 2299 (by decide +kernel) (by decide +kernel), List.forall_mem_cons.mpr ⟨mgd 2301 (by decide +kernel) (by decide +kernel), List.forall_mem_cons.mpr ⟨mgd 92 (by decide +kernel) (by decide +kernel), List.forall_mem_cons.mpr ⟨mgd 136 (by decide +kernel) (by decide +kernel), List.forall_mem_cons.mpr ⟨mgd 2302 (by decide +kernel) (by decide +kernel), fun _ h => absurd h List.not_mem_nil⟩⟩⟩⟩⟩
theorem vX14_writePatch_326 : ∀ w ∈ ([.methodLink RX14 326 yX13_number, .instanceMethod yX13_number, .selects yX13_number.cls yX13_number yX13_number, .initialized yX13_number.cls, .code yX13_number cX13_number 5 none] : List Cond), w ∈ lw_good := List.forall_mem_cons.mpr ⟨mgd 2254 (by decide +kernel) (by decide +kernel), List.forall_mem_cons.mpr ⟨mgd 2255 (by decide +kernel) (by decide +kernel), List.forall_mem_cons.mpr ⟨mgd 2256 (by decide +kernel) (by decide +kernel), List.forall_mem_cons.mpr ⟨mgd 137 (by decide +kernel) (by decide +kernel), List.forall_mem_cons.mpr ⟨mgd 2257 (by decide +kernel) (by decide +kernel), fun _ h => absurd h List.not_mem_nil⟩⟩⟩⟩⟩
theorem vX14_writePatch_367 : ∀ w ∈ ([.methodLink RX14 367 yX14_pack, .instanceMethod yX14_pack, .selects yX14_pack.cls yX14_pack yX14_pack, .initialized yX14_pack.cls, .code yX14_pack cX14_pack 7 none] : List Cond), w ∈ lw_good := List.forall_mem_cons.mpr ⟨mgd 2308 (by decide +kernel) (by decide +kernel), List.forall_mem_cons.mpr ⟨mgd 2310 (by decide +kernel) (by decide +kernel), List.forall_mem_cons.mpr ⟨mgd 94 (by decide +kernel) (by decide +kernel), List.forall_mem_cons.mpr ⟨mgd 136 (by decide +kernel) (by decide +kernel), List.forall_mem_cons.mpr ⟨mgd 2311 (by decide +kernel) (by decide +kernel), fun _ h => absurd h List.not_mem_nil⟩⟩⟩⟩⟩
theorem vX14_writePatch_323 : ∀ w ∈ ([.methodLink RX14 323 yX14_begin, .instanceMethod yX14_begin, .selects yX14_begin.cls yX14_begin yX14_begin, .initialized yX14_begin.cls, .code yX14_begin cX14_begin 3 none] : List Cond), w ∈ lw_good := List.forall_mem_cons.mpr ⟨mgd 2246 (by decide +kernel) (by decide +kernel), List.forall_mem_cons.mpr ⟨mgd 2248 (by decide +kernel) (by decide +kernel), List.forall_mem_cons.mpr ⟨mgd 85 (by decide +kernel) (by decide +kernel), List.forall_mem_cons.mpr ⟨mgd 136 (by decide +kernel) (by decide +kernel), List.forall_mem_cons.mpr ⟨mgd 2249 (by decide +kernel) (by decide +kernel), fun _ h => absurd h List.not_mem_nil⟩⟩⟩⟩⟩
theorem vX14_writePatch_370 : ∀ w ∈ ([.methodLink RX14 370 yX13_column, .instanceMethod yX13_column, .selects yX13_column.cls yX13_column yX13_column, .initialized yX13_column.cls, .code yX13_column cX13_column 2 none] : List Cond), w ∈ lw_good := List.forall_mem_cons.mpr ⟨mgd 2317 (by decide +kernel) (by decide +kernel), List.forall_mem_cons.mpr ⟨mgd 2318 (by decide +kernel) (by decide +kernel), List.forall_mem_cons.mpr ⟨mgd 2319 (by decide +kernel) (by decide +kernel), List.forall_mem_cons.mpr ⟨mgd 137 (by decide +kernel) (by decide +kernel), List.forall_mem_cons.mpr ⟨mgd 2320 (by decide +kernel) (by decide +kernel), fun _ h => absurd h List.not_mem_nil⟩⟩⟩⟩⟩
theorem vX14_writePatch_329 : ∀ w ∈ ([.methodLink RX14 329 yX14_close, .instanceMethod yX14_close, .selects yX14_close.cls yX14_close yX14_close, .initialized yX14_close.cls, .code yX14_close cX14_close 3 none] : List Cond), w ∈ lw_good := List.forall_mem_cons.mpr ⟨mgd 2261 (by decide +kernel) (by decide +kernel), List.forall_mem_cons.mpr ⟨mgd 2263 (by decide +kernel) (by decide +kernel), List.forall_mem_cons.mpr ⟨mgd 86 (by decide +kernel) (by decide +kernel), List.forall_mem_cons.mpr ⟨mgd 136 (by decide +kernel) (by decide +kernel), List.forall_mem_cons.mpr ⟨mgd 2264 (by decide +kernel) (by decide +kernel), fun _ h => absurd h List.not_mem_nil⟩⟩⟩⟩⟩
set_option maxRecDepth 100000 in
set_option maxHeartbeats 2000000 in
theorem c_rwp (l : Launch) (hlt : l.stackTraces = false) : ∀ (t : Nat) (p : Nat) (r : Option Nat) (F : Nat → Nat × Nat) (z : Nat → Nat) (Y : Nat → Nat → Nat) (R : Rb) (kz : Nat → Nat) (o : Option Nat), CtX l yX14_writePatch (Cond.code yX14_writePatch cX14_writePatch 10 none) none 6 94 (sp_rwp t p r F z Y R kz o) := by
  intro t p r F z Y R kz o
  refine CtX.of hlt (fX14, nX14, aX14, iX14, lX14, [(351, 2, 3, 1, T_rbh), (355, 0, 3, 0, T_rwu), (359, 0, 5, 1, T_rgo), (363, 0, 6, 0, T_rspn), (326, 0, 2, 0, T_onu), (367, 0, 1, 0, T_rpck), (323, 0, 3, 0, T_rbgn), (370, 0, 2, 0, T_ocl), (329, 0, 1, 0, T_rclo)], qX14, gX14, thX14) false tX14_writePatch (fun _ S => look [(76, ([0,1,2,3,4,5], I_wp1 t p r F z Y R kz o S)), (109, ([0,1,2,3,4,5,6,7,8], I_wp2 t p r F z Y R kz o S)), (125, ([0,1,2,3,4,5,6,7,8,9], I_wp3 t p r F z Y R kz o S)), (168, ([0,1,2,3,4,5,6,7,8,9], I_wp4 t p r F z Y R kz o S)), (202, ([0,1,2,3,4,5,6,7,8,9], I_wp5 t p r F z Y R kz o S)), (241, ([0,1,6], I_wp6 t p F z Y R kz o S)), (275, ([0,1], I_wp7 t p F z Y R kz o S))]) (by decide) (by decide) kX14_writePatch ⟨_, _, rfl⟩ fX14_ok nX14_ok aX14_ok iX14_ok lX14_ok (fun p e R s m args below meth c Q D cy z r A C hR1 hR2 => List.forall_mem_cons.mpr ⟨cOK_use (fun _ _ _ _ _ _ _ _ h => let ⟨sp, h1, _, h3⟩ := u_rbh l _ _ _ _ _ _ _ _ h; ⟨sp, cOK_S C h1 vX14_writePatch_351 ⟨by decide, by decide, by decide +kernel⟩ ⟨by rw [hR1]; decide, by rw [hR2]; decide⟩, h3⟩), List.forall_mem_cons.mpr ⟨cOK_use (fun _ _ _ _ _ _ _ _ h => let ⟨sp, h1, h2, h3⟩ := u_rwu l _ _ _ _ _ _ _ _ h; ⟨sp, cOK_V C h1 vX14_writePatch_355 ⟨by decide, by decide, by decide +kernel⟩ ⟨by rw [hR1]; decide, by rw [hR2]; decide⟩ (k := 15) (T := TX14) (N := 52) rfl (by decide) h2, h3⟩), List.forall_mem_cons.mpr ⟨cOK_use (fun _ _ _ _ _ _ _ _ h => let ⟨sp, h1, h2, h3⟩ := u_rgo l _ _ _ _ _ _ _ _ h; ⟨sp, cOK_V C h1 vX14_writePatch_359 ⟨by decide, by decide, by decide +kernel⟩ ⟨by rw [hR1]; decide, by rw [hR2]; decide⟩ (k := 15) (T := TX14) (N := 52) rfl (by decide) h2, h3⟩), List.forall_mem_cons.mpr ⟨cOK_use (fun _ _ _ _ _ _ _ _ h => let ⟨sp, h1, h2, h3⟩ := u_rspn l _ _ _ _ _ _ _ _ h; ⟨sp, cOK_V C h1 vX14_writePatch_363 ⟨by decide, by decide, by decide +kernel⟩ ⟨by rw [hR1]; decide, by rw [hR2]; decide⟩ (k := 15) (T := TX14) (N := 52) rfl (by decide) h2, h3⟩), List.forall_mem_cons.mpr ⟨cOK_use (fun _ _ _ _ _ _ _ _ h => let ⟨sp, h1, h2, h3⟩ := u_onu l _ _ _ _ _ _ _ _ h; ⟨sp, cOK_V C h1 vX14_writePatch_326 ⟨by decide, by decide, by decide +kernel⟩ ⟨by rw [hR1]; decide, by rw [hR2]; decide⟩ (k := 14) (T := TX13) (N := 2) rfl (by decide) h2, h3⟩), List.forall_mem_cons.mpr ⟨cOK_use (fun _ _ _ _ _ _ _ _ h => let ⟨sp, h1, h2, h3⟩ := u_rpck l _ _ _ _ _ _ _ _ h; ⟨sp, cOK_V C h1 vX14_writePatch_367 ⟨by decide, by decide, by decide +kernel⟩ ⟨by rw [hR1]; decide, by rw [hR2]; decide⟩ (k := 15) (T := TX14) (N := 52) rfl (by decide) h2, h3⟩), List.forall_mem_cons.mpr ⟨cOK_use (fun _ _ _ _ _ _ _ _ h => let ⟨sp, h1, h2, h3⟩ := u_rbgn l _ _ _ _ _ _ _ _ h; ⟨sp, cOK_V C h1 vX14_writePatch_323 ⟨by decide, by decide, by decide +kernel⟩ ⟨by rw [hR1]; decide, by rw [hR2]; decide⟩ (k := 15) (T := TX14) (N := 52) rfl (by decide) h2, h3⟩), List.forall_mem_cons.mpr ⟨cOK_use (fun _ _ _ _ _ _ _ _ h => let ⟨sp, h1, h2, h3⟩ := u_ocl l _ _ _ _ _ _ _ _ h; ⟨sp, cOK_V C h1 vX14_writePatch_370 ⟨by decide, by decide, by decide +kernel⟩ ⟨by rw [hR1]; decide, by rw [hR2]; decide⟩ (k := 14) (T := TX13) (N := 2) rfl (by decide) h2, h3⟩), List.forall_mem_cons.mpr ⟨cOK_use (fun _ _ _ _ _ _ _ _ h => let ⟨sp, h1, h2, h3⟩ := u_rclo l _ _ _ _ _ _ _ _ h; ⟨sp, cOK_V C h1 vX14_writePatch_329 ⟨by decide, by decide, by decide +kernel⟩ ⟨by rw [hR1]; decide, by rw [hR2]; decide⟩ (k := 15) (T := TX14) (N := 52) rfl (by decide) h2, h3⟩), fun _ h => absurd h List.not_mem_nil⟩⟩⟩⟩⟩⟩⟩⟩⟩) qX14_ok gX14_ok (fun q hq => ⟨thX14_ok q hq, by decide, by decide⟩) ?_ ?_
  · rintro _ S ⟨rfl, hp⟩
    refine ⟨Nat.le_of_ble_eq_true rfl, 300, ?_⟩
    show (isO S 15 t ∧ (pa (mR S 1500 t) fun a_1 => a_1 ∈ mL S ∧ ¬ mK S a_1 < 21 ∧ mK S a_1 < 29 ∧ inR S a_1 (nI p) ∧ (isO S 15 t ∧ (True ∧ (pa (mR S 1525 t) fun a_2 => isO S 14 a_2 ∧ (isO (sI S 1401 a_2 (0 : Int32)) 15 t ∧ (True ∧ (pa (mR (sI S 1401 a_2 (0 : Int32)) 1526 t) fun a_3 => isO (sI S 1401 a_2 (0 : Int32)) 14 a_3 ∧ (isO (sI (sI S 1401 a_2 (0 : Int32)) 1401 a_3 (0 : Int32)) 15 t ∧ (True ∧ (pa (mR (sI (sI S 1401 a_2 (0 : Int32)) 1401 a_3 (0 : Int32)) 1527 t) fun a_4 => isO (sI (sI S 1401 a_2 (0 : Int32)) 1401 a_3 (0 : Int32)) 14 a_4 ∧ (isO (sI (sI (sI S 1401 a_2 (0 : Int32)) 1401 a_3 (0 : Int32)) 1401 a_4 (0 : Int32)) 15 t ∧ (True ∧ (pa (mR (sI (sI (sI S 1401 a_2 (0 : Int32)) 1401 a_3 (0 : Int32)) 1401 a_4 (0 : Int32)) 1528 t) fun a_5 => isO (sI (sI (sI S 1401 a_2 (0 : Int32)) 1401 a_3 (0 : Int32)) 1401 a_4 (0 : Int32)) 14 a_5 ∧ (isO (sI (sI (sI (sI S 1401 a_2 (0 : Int32)) 1401 a_3 (0 : Int32)) 1401 a_4 (0 : Int32)) 1401 a_5 (0 : Int32)) 15 t ∧ (True ∧ (pa (mR (sI (sI (sI (sI S 1401 a_2 (0 : Int32)) 1401 a_3 (0 : Int32)) 1401 a_4 (0 : Int32)) 1401 a_5 (0 : Int32)) 1529 t) fun a_6 => isO (sI (sI (sI (sI S 1401 a_2 (0 : Int32)) 1401 a_3 (0 : Int32)) 1401 a_4 (0 : Int32)) 1401 a_5 (0 : Int32)) 14 a_6 ∧ (isO (sI (sI (sI (sI (sI S 1401 a_2 (0 : Int32)) 1401 a_3 (0 : Int32)) 1401 a_4 (0 : Int32)) 1401 a_5 (0 : Int32)) 1401 a_6 (0 : Int32)) 15 t ∧ (True ∧ (pa (mR (sI (sI (sI (sI (sI S 1401 a_2 (0 : Int32)) 1401 a_3 (0 : Int32)) 1401 a_4 (0 : Int32)) 1401 a_5 (0 : Int32)) 1401 a_6 (0 : Int32)) 1530 t) fun a_7 => isO (sI (sI (sI (sI (sI S 1401 a_2 (0 : Int32)) 1401 a_3 (0 : Int32)) 1401 a_4 (0 : Int32)) 1401 a_5 (0 : Int32)) 1401 a_6 (0 : Int32)) 14 a_7 ∧ (True ∧ (isO (sI (sI (sI (sI (sI (sI S 1401 a_2 (0 : Int32)) 1401 a_3 (0 : Int32)) 1401 a_4 (0 : Int32)) 1401 a_5 (0 : Int32)) 1401 a_6 (0 : Int32)) 1401 a_7 (0 : Int32)) 15 t ∧ (True ∧ (isO (sI (sI (sI (sI (sI (sI (sI S 1401 a_2 (0 : Int32)) 1401 a_3 (0 : Int32)) 1401 a_4 (0 : Int32)) 1401 a_5 (0 : Int32)) 1401 a_6 (0 : Int32)) 1401 a_7 (0 : Int32)) 1532 t (0 : Int32)) 15 t ∧ (2 = 2 ∧ ((pa (eR S a_1 (nI p).toNatClampNeg) fun a_8 => (∃ (F_9 : Nat → Nat × Nat) (i_10 : Nat) (y_11 : Nat → Nat) (G_12 : Gr) (T_13 : Tr) (Ko_14 : Option (Nat → Nat)) (x_15 : Nat), (a_8 = y_11 0 ∧ RG (sI (sI (sI (sI (sI (sI (sI (sI S 1401 a_2 (0 : Int32)) 1401 a_3 (0 : Int32)) 1401 a_4 (0 : Int32)) 1401 a_5 (0 : Int32)) 1401 a_6 (0 : Int32)) 1401 a_7 (0 : Int32)) 1532 t (0 : Int32)) 1533 t (0 : Int32)) F_9 i_10 y_11 G_12 T_13 ∧ knO (sI (sI (sI (sI (sI (sI (sI (sI S 1401 a_2 (0 : Int32)) 1401 a_3 (0 : Int32)) 1401 a_4 (0 : Int32)) 1401 a_5 (0 : Int32)) 1401 a_6 (0 : Int32)) 1401 a_7 (0 : Int32)) 1532 t (0 : Int32)) 1533 t (0 : Int32)) r Ko_14 ∧ (-1 : Int32) + 1 = nI x_15 ∧ x_15 ≤ G_12.n) ∧ 0 ≤ 1 ∧ 0 ≤ 6 ∧ (∀ (x_17 : Int32), (∃ f, x_17 = nI f ∧ bhV G_12 Ko_14 x_15 f) → (∃ k1, I_wp1 t p r F z Y R kz o S k1 [(0, .inr (.inr (some t))), (1, .inl (nI p)), (2, .inr (.inr r)), (3, .inr (.inr (eR S a_1 (nI p).toNatClampNeg))), (4, .inl (-1 : Int32)), (5, .inl x_17)] [] (sI (sI (sI (sI (sI (sI (sI (sI S 1401 a_2 (0 : Int32)) 1401 a_3 (0 : Int32)) 1401 a_4 (0 : Int32)) 1401 a_5 (0 : Int32)) 1401 a_6 (0 : Int32)) 1401 a_7 (0 : Int32)) 1532 t (0 : Int32)) 1533 t (0 : Int32)) 0 0))))))))))))))))))))))))))))))
    obtain ⟨hM, hA, hp4, ho4, rfl⟩ := hp
    have r0 := hM 1 0 (by decide)
    have cp : (nI p).toNatClampNeg = p := nI_clamp (by omega)
    have er : eR S (z 0) (nI p).toNatClampNeg = some (Y p 0) := by rw [cp]; exact (hM 2 p hp4).1
    obtain ⟨m1, l1, k1⟩ := hM.rs (l := []) (fun k hk => by cases hk) (k0 := 0) (by decide)
    have m1 : MD (sI S 1401 (z 25) 0) F t z Y R kz := m1
    obtain ⟨m2, l2, k2⟩ := m1.rs l1 (k0 := 1) (by decide)
    have m2 : MD (sI (sI S 1401 (z 25) 0) 1401 (z 26) 0) F t z Y R kz := m2
    obtain ⟨m3, l3, k3⟩ := m2.rs l2 (k0 := 2) (by decide)
    have m3 : MD (sI (sI (sI S 1401 (z 25) 0) 1401 (z 26) 0) 1401 (z 27) 0) F t z Y R kz := m3
    obtain ⟨m4, l4, k4⟩ := m3.rs l3 (k0 := 3) (by decide)
    have m4 : MD (sI (sI (sI (sI S 1401 (z 25) 0) 1401 (z 26) 0) 1401 (z 27) 0) 1401 (z 28) 0) F t z Y R kz := m4
    obtain ⟨m5, l5, k5⟩ := m4.rs l4 (k0 := 4) (by decide)
    have m5 : MD (sI (sI (sI (sI (sI S 1401 (z 25) 0) 1401 (z 26) 0) 1401 (z 27) 0) 1401 (z 28) 0) 1401 (z 29) 0) F t z Y R kz := m5
    obtain ⟨m6, l6, k6⟩ := m5.rs l5 (k0 := 5) (by decide)
    have m6 : MD (sI (sI (sI (sI (sI (sI S 1401 (z 25) 0) 1401 (z 26) 0) 1401 (z 27) 0) 1401 (z 28) 0) 1401 (z 29) 0) 1401 (z 30) 0) F t z Y R kz := m6
    have c6 : OuC (sI (sI (sI (sI (sI (sI S 1401 (z 25) 0) 1401 (z 26) 0) 1401 (z 27) 0) 1401 (z 28) 0) 1401 (z 29) 0) 1401 (z 30) 0) z vE0 := fun k hk => (l6 k (by
      rcases (show k = 0 ∨ k = 1 ∨ k = 2 ∨ k = 3 ∨ k = 4 ∨ k = 5 by omega) with e | e | e | e | e | e <;> subst e <;> decide)).2
    have K6 := ((((k1.tr k2).tr k3).tr k4).tr k5).tr k6
    have f6 : ∀ f, f ≠ 1401 → mI (sI (sI (sI (sI (sI (sI S 1401 (z 25) 0) 1401 (z 26) 0) 1401 (z 27) 0) 1401 (z 28) 0) 1401 (z 29) 0) 1401 (z 30) 0) f t = mI S f t := fun f hf => by
      have hn : ∀ {x : Nat}, ¬ (f = 1401 ∧ t = x) := fun q => hf q.1
      rw [mI_sI, if_neg hn, mI_sI, if_neg hn, mI_sI, if_neg hn, mI_sI, if_neg hn, mI_sI, if_neg hn, mI_sI, if_neg hn]
    have m7 := m6.sf (f := 1532) (by decide) 0
    have m8 := m7.sf (f := 1533) (by decide) 0
    refine ⟨(hM 0).1, pa_i r0.1 ⟨r0.2.2.1.1, by rw [r0.2.2.1.2]; decide, by rw [r0.2.2.1.2]; decide, inRn (N := 4) r0.2.2.2 hp4 (by decide), (hM 0).1, trivial, pa_i (hM 10 25 (Or.inr (by decide))).1 ⟨hM.o14 (Or.inr (by decide)), (m1 0).1, trivial, pa_i (m1 10 26 (Or.inr (by decide))).1 ⟨m1.o14 (Or.inr (by decide)), (m2 0).1, trivial, pa_i (m2 10 27 (Or.inr (by decide))).1 ⟨m2.o14 (Or.inr (by decide)), (m3 0).1, trivial, pa_i (m3 10 28 (Or.inr (by decide))).1 ⟨m3.o14 (Or.inr (by decide)), (m4 0).1, trivial, pa_i (m4 10 29 (Or.inr (by decide))).1 ⟨m4.o14 (Or.inr (by decide)), (m5 0).1, trivial, pa_i (m5 10 30 (Or.inr (by decide))).1 ⟨m5.o14 (Or.inr (by decide)), trivial, (m6 0).1, trivial, (m7 0).1, rfl, pa_i er ⟨F, 101 + p, Y p, R.Q.G p, R.Q.T p, o.map (R.Q.Kn p), 0, ⟨rfl, (m8 2 p hp4).2.1, m8.kno hp4 ho4, by decide, Nat.zero_le _⟩, by decide, by decide, fun v hv => ?_⟩⟩⟩⟩⟩⟩⟩⟩⟩
    generalize hS6 : (sI (sI (sI (sI (sI (sI S 1401 (z 25) 0) 1401 (z 26) 0) 1401 (z 27) 0) 1401 (z 28) 0) 1401 (z 29) 0) 1401 (z 30) 0) = S6 at *
    obtain ⟨e, rfl, hb⟩ := hv
    have eb : bgV vE0 = vE0 := by
      funext k
      unfold bgV vE0
      split <;> rfl
    have eg : gW R p o e = (vE0, [], none, none, 0) := by
      unfold gW
      rw [gaS_sk (x := 0) (Nat.zero_le _) (fun k a b => hb.2.2.1 k a b)]
      show (bgV vE0, _) = _
      rw [eb]
    have kt : Keep (fun c => c = t) S6 (sI (sI S6 1532 t 0) 1533 t 0) := Keep.sI (P := fun c => c = t) (Keep.sI (P := fun c => c = t) Keep.rf rfl) rfl
    have ht : (F t).1 = 100 := by rw [(hM 0).2]
    refine ⟨_, e, rfl, ⟨hb.2.1, fun hlt => ⟨hb.2.2.2 hlt, by rw [eg]; rfl⟩, ?_, ?_, ?_⟩, ?_, rfl, rfl, rfl⟩
    · rw [eg]
      refine ⟨m8, c6.kp m6 kt (fun b h9 q => by rw [q] at h9; omega), ⟨?_, fun j hj => absurd hj (Nat.not_lt_zero j), List.nodup_nil, fun a h9 => by cases h9⟩, by rw [mI_sI, if_pos ⟨rfl, rfl⟩]; rfl, Keep.trN K6 kt (fun b _ q => by rw [q]; exact Or.inl ht), ?_⟩
      · rw [mI_sI, if_neg (fun q => absurd q.1 (by decide)), mI_sI, if_pos ⟨rfl, rfl⟩]; rfl
      · rw [mI_sI, if_neg (fun q => absurd q.1 (by decide)), mI_sI, if_neg (fun q => absurd q.1 (by decide))]; exact f6 _ (by decide)
    · rw [eg]
      exact ⟨rfl, rfl, Nat.zero_le _, Nat.zero_le _, Nat.zero_le _, Nat.zero_le _⟩
    · rw [eg]
      exact ⟨⟨1, by decide, (show (0 : Int32) = nI 1 - 1 by decide)⟩, fun q h9 => by cases h9⟩
    · rw [eg, er]; rfl
  · intro av S hpre pc I hI k lo st S1 cs sl h
    obtain ⟨rfl, hp⟩ := hpre
    have hm := look_in hI
    simp only [List.mem_cons, List.not_mem_nil, or_false] at hm
    rcases hm with hm | hm | hm | hm | hm | hm | hm
    · cases hm
      obtain ⟨e, rfl, hO, rfl, rfl, rfl, rfl⟩ := h
      refine ⟨300, ?_⟩
      show (isO S1 13 (Y p 0) ∧ (((mI S1 1300 (Y p 0)) ≤ (nI e) → (isO S1 15 t ∧ (isO S1 15 t ∧ (0 = 0 ∧ ((pa (mR S1 1525 t) fun a_1 => (∃ (cb_2 : Nat) (B_3 : List Nat) (n_4 : Nat), (Ou S1 a_1 cb_2 B_3 ∧ ((mI S1 1532 t).toInt64) = lN n_4 ∧ n_4 < 2 ^ 35 ∧ B_3.length + 5 ≤ 1000000) ∧ 0 ≤ 1 ∧ 0 ≤ 6 ∧ (∀ (S_5 : MM), (ouP S1 S_5 a_1 cb_2 (B_3 ++ vbN 5 n_4)) → (∃ k1, k1 < (1000 + 10 * ((R.Q.G p).n - e) + 9) ∧ I_wp6 t p F z Y R kz o S k1 [(0, .inr (.inr (some t))), (1, .inl (nI p)), (6, .inl (0 : Int32))] [] S_5 0 0))))))))) ∧ (¬ (mI S1 1300 (Y p 0)) ≤ (nI e) → (isO S1 13 (Y p 0) ∧ (pa (mR S1 1309 (Y p 0)) fun a_6 => (isO S1 16 a_6 ∨ isO S1 20 a_6) ∧ inR S1 a_6 (nI e) ∧ (((eI S1 a_6 (nI e).toNatClampNeg) = 0 → (∃ k1, k1 < (1000 + 10 * ((R.Q.G p).n - e) + 9) ∧ I_wp2 t p r F z Y R kz o S k1 [(0, .inr (.inr (some t))), (1, .inl (nI p)), (2, .inr (.inr r)), (3, .inr (.inr (some (Y p 0)))), (4, .inl (stI (clW (R.Q.G p) (gW R p o e)).2.2.2.1)), (5, .inl (nI e)), (6, .inl (nI e)), (7, .inl (1 : Int32)), (8, .inl (-1 : Int32))] [] S1 0 0)) ∧ (¬ (eI S1 a_6 (nI e).toNatClampNeg) = 0 → (∃ k1, k1 < (1000 + 10 * ((R.Q.G p).n - e) + 9) ∧ I_wp2 t p r F z Y R kz o S k1 [(0, .inr (.inr (some t))), (1, .inl (nI p)), (2, .inr (.inr r)), (3, .inr (.inr (some (Y p 0)))), (4, .inl (stI (clW (R.Q.G p) (gW R p o e)).2.2.2.1)), (5, .inl (nI e)), (6, .inl (nI e)), (7, .inl (1 : Int32)), (8, .inl (0 : Int32))] [] S1 0 0))))))))
      obtain ⟨hM, hA, hp4, ho4, rfl⟩ := hp
      obtain ⟨h1, h2, hT, hB, hX⟩ := id hO
      have M1 := hT.1
      have g := (M1 2 p hp4).2.1
      have hnm := g.nm
      have hGT := (hA p hp4).1
      have m0 : mI S1 1300 (Y p 0) = nI (R.Q.G p).n := (g 2).1
      rw [m0]
      refine ⟨(g 0).1, if_le (by omega) (by omega) (fun w => ?_) (fun w => ?_)⟩
      · have hen : e = (R.Q.G p).n := by omega
        subst hen
        have e32 : mI S1 1532 t = nI (wpL R p o).length := hT.2.2.1.1
        have hml : (wpL R p o).length ≤ 256 := hT.ml
        have b2 := vbs_le2 (v := (wpL R p o).length) (by omega)
        have c0 : (clW (R.Q.G p) (gW R p o (R.Q.G p).n)).1 0 = [] := hB.1
        refine ⟨(M1 0).1, (M1 0).1, rfl, pa_i (M1 10 25 (Or.inr (by decide))).1 ⟨z (70 + 25), _, (wpL R p o).length, ⟨hT.2.1 0 (by decide), by rw [e32]; exact nI_l (by omega), by omega, by rw [vB_len, c0]; decide⟩, by decide, by decide, fun S5 q => ?_⟩⟩
        have W5 := hT.num (k0 := 0) (by decide) (by omega) q
        refine ⟨300 + ((wpL R p o).length - 0), by omega, 0, _, rfl, Nat.zero_le _, W5, ?_, hB, rfl, rfl, rfl, rfl⟩
        show ((clW (R.Q.G p) (gW R p o (R.Q.G p).n)).1 0 ++ vbs 4 (nI (wpL R p o).length)).length ≤ _
        rw [c0, List.nil_append]; omega
      · obtain ⟨ef, -⟩ := g.e9 hGT.2.1 w
        refine ⟨(g 0).1, pa_i g.r9.1 ⟨Or.inr g.r9.2.1, inRn g.r9.2.2 (by omega) (by decide), ?_⟩⟩
        rw [ef]
        by_cases hc : ((R.Q.G p).ev e).ch = none
        · rw [if_pos hc]
          refine ⟨fun _ => ⟨1000 + 10 * ((R.Q.G p).n - e) + 8, by omega, e, rfl, w, hO, ?_, rfl, rfl, rfl⟩, fun q => absurd rfl q⟩
          rw [knd, if_pos ⟨hc, rfl⟩]; rfl
        · rw [if_neg hc]
          refine ⟨fun q => absurd q (by decide), fun _ => ⟨1000 + 10 * ((R.Q.G p).n - e) + 8, by omega, e, rfl, w, hO, ?_, rfl, rfl, rfl⟩⟩
          rw [knd, if_neg (fun q => hc q.1), if_neg hc]; rfl
    · cases hm
      obtain ⟨e, rfl, hen, hO, rfl, rfl, rfl, rfl⟩ := h
      refine ⟨300, ?_⟩
      show (0 = 0 ∧ (∃ (e_1 : Nat), nI e = nI e_1 ∧ (∃ (F_2 : Nat → Nat × Nat) (z_3 : Nat → Nat) (Y_4 : Nat → Nat → Nat) (R_5 : Rb) (kz_6 : Nat → Nat) (p_7 : Nat) (U_8 : List Nat), (MD S1 F_2 t z_3 Y_4 R_5 kz_6 ∧ p_7 < 4 ∧ (Y p 0) = Y_4 p_7 0 ∧ e_1 < (R_5.Q.G p_7).n ∧ (((R_5.Q.G p_7).ev e_1).ch = none → ((R_5.Q.G p_7).ev e_1).tg < 8192) ∧ (∀ c, ((R_5.Q.G p_7).ev e_1).ch = some c → c < 2000000) ∧ Ou S1 (z_3 30) (z_3 (70 + 30)) U_8 ∧ U_8.length + 4 ≤ 1000000) ∧ 0 ≤ 1 ∧ 0 ≤ 6 ∧ (∀ (S_9 : MM), (ouQ S1 S_9 F_2 t z_3 Y_4 R_5 kz_6 30 (U_8 ++ rU1 ((R_5.Q.G p_7).ev e_1).ch)) → (2 = 2 ∧ (∃ (F_10 : Nat → Nat × Nat) (i_11 : Nat) (y_12 : Nat → Nat) (G_13 : Gr) (T_14 : Tr) (Ko_15 : Option (Nat → Nat)) (x_16 : Nat), ((Y p 0) = y_12 0 ∧ RG S_9 F_10 i_11 y_12 G_13 T_14 ∧ knO S_9 r Ko_15 ∧ (nI e) + 1 = nI x_16 ∧ x_16 ≤ G_13.n) ∧ 0 ≤ 1 ∧ 0 ≤ 6 ∧ (∀ (x_18 : Int32), (∃ f, x_18 = nI f ∧ bhV G_13 Ko_15 x_16 f) → (∃ k1, k1 < (1000 + 10 * ((R.Q.G p).n - e) + 8) ∧ I_wp3 t p r F z Y R kz o S k1 [(0, .inr (.inr (some t))), (1, .inl (nI p)), (2, .inr (.inr r)), (3, .inr (.inr (some (Y p 0)))), (4, .inl (stI (clW (R.Q.G p) (gW R p o e)).2.2.2.1)), (5, .inl (nI e)), (6, .inl (nI e)), (7, .inl (nI 1)), (8, .inl (knd (R.Q.G p) e 1 (if ((R.Q.G p).ev e).ch = none then 1 else 0))), (9, .inl x_18)] [] S_9 0 0))))))))
      obtain ⟨hM, hA, hp4, ho4, rfl⟩ := hp
      obtain ⟨h1, h2, hT, hB, hX⟩ := id hO
      have M1 := hT.1
      have g := (M1 2 p hp4).2.1
      have hnm := g.nm
      have hGT := (hA p hp4).1
      obtain ⟨hk, hgs⟩ := h2 hen
      have eg : gW R p o (e + 1) = (wU (clW (R.Q.G p) (gW R p o e)).1 ((R.Q.G p).ev e).ch, (clW (R.Q.G p) (gW R p o e)).2.1, some (e, e, 1, if ((R.Q.G p).ev e).ch = none then 1 else 0), (clW (R.Q.G p) (gW R p o e)).2.2.2.1, (clW (R.Q.G p) (gW R p o e)).2.2.2.2) := (gaS_st hk).trans (aeS_new hgs)
      have l5 : ((clW (R.Q.G p) (gW R p o e)).1 5).length ≤ 4 * e := hB.2.2.2.2.2
      refine ⟨rfl, e, rfl, F, z, Y, R, kz, p, vB ((clW (R.Q.G p) (gW R p o e)).1 5), ⟨M1, hp4, rfl, hen, fun q => ?_, fun c q => (hGT.2.1 e hen).1 c q, hT.2.1 5 (by decide), by rw [vB_len]; omega⟩, by decide, by decide, fun S9 hQ => ?_⟩
      · have := ((hGT.2.1 e hen).2 q).1
        omega
      · have W9 := wpS.wr hT hQ (fun c q => (hGT.2.1 e hen).1 c q)
        have B9 := wpB.wr (oc := ((R.Q.G p).ev e).ch) hB
        have M9 := W9.1
        refine ⟨rfl, F, 101 + p, Y p, R.Q.G p, R.Q.T p, o.map (R.Q.Kn p), e + 1, ⟨rfl, (M9 2 p hp4).2.1, M9.kno hp4 ho4, nI_1 _, hen⟩, by decide, by decide, fun v hv => ?_⟩
        obtain ⟨f, rfl, hb⟩ := hv
        refine ⟨1000 + 10 * ((R.Q.G p).n - e) + 5, by omega, e, f, e, 1, (if ((R.Q.G p).ev e).ch = none then 1 else 0), rfl, ⟨hen, hen, Nat.le_refl _, by omega, hb, by rw [eg], ⟨fun q => if_neg q, fun q => Or.inl (if_pos q)⟩, by split <;> decide, ⟨fun _ => rfl, fun _ => rfl, fun q => by split at q <;> cases q⟩, by rw [eg]; exact W9, by rw [eg]; exact B9, by rw [eg]; exact hX⟩, by rw [eg], rfl, rfl, rfl⟩
    · cases hm
      obtain ⟨e, f, fi, m, kd, rfl, hN, rfl, rfl, rfl, rfl⟩ := h
      refine ⟨300, ?_⟩
      show (0 = 0 ∧ (∃ (e0_1 : Nat), nI e = nI e0_1 ∧ (∃ (f_2 : Nat), nI f = nI f_2 ∧ (∃ (S0_3 : MM) (F_4 : Nat → Nat × Nat) (z_5 : Nat → Nat) (Y_6 : Nat → Nat → Nat) (R_7 : Rb) (kz_8 : Nat → Nat) (V_9 : Nat → List Int32) (M_10 : List Nat) (ex_11 : Int32) (p_12 m_13 kd_14 : Nat), (wpS S0_3 S1 F_4 t z_5 Y_6 R_7 kz_8 V_9 M_10 ex_11 ∧ AbC R_7 ∧ p_12 < 4 ∧ (Y p 0) = Y_6 p_12 0 ∧ e0_1 < (R_7.Q.G p_12).n ∧ f_2 ≤ (R_7.Q.G p_12).n ∧ (knd (R.Q.G p) e m kd) = knd (R_7.Q.G p_12) e0_1 m_13 kd_14 ∧ kdOk (R_7.Q.G p_12) e0_1 m_13 kd_14) ∧ 0 ≤ 1 ∧ 0 ≤ 6 ∧ (∀ (S_15 : MM), (wpS S0_3 S_15 F_4 t z_5 Y_6 R_7 kz_8 V_9 M_10 ex_11) → (((bI (decide (f_2 < (R_7.Q.G p_12).n) && gsB (R_7.Q.G p_12) e0_1 m_13 kd_14 f_2)) = 0 → ((0 ≤ (knd (R.Q.G p) e m kd) → (∃ k1, k1 < (1000 + 10 * ((R.Q.G p).n - e) + 5) ∧ I_wp5 t p r F z Y R kz o S k1 [(0, .inr (.inr (some t))), (1, .inl (nI p)), (2, .inr (.inr r)), (3, .inr (.inr (some (Y p 0)))), (4, .inl (stI (gW R p o (e + 1)).2.2.2.1)), (5, .inl (nI e)), (6, .inl (nI fi)), (7, .inl (nI m)), (8, .inl (knd (R.Q.G p) e m kd)), (9, .inl (nI f))] [] S_15 0 0)) ∧ (¬ 0 ≤ (knd (R.Q.G p) e m kd) → (∃ k1, k1 < (1000 + 10 * ((R.Q.G p).n - e) + 5) ∧ I_wp5 t p r F z Y R kz o S k1 [(0, .inr (.inr (some t))), (1, .inl (nI p)), (2, .inr (.inr r)), (3, .inr (.inr (some (Y p 0)))), (4, .inl (stI (gW R p o (e + 1)).2.2.2.1)), (5, .inl (nI e)), (6, .inl (nI fi)), (7, .inl (nI m)), (8, .inl (1 : Int32)), (9, .inl (nI f))] [] S_15 0 0)))) ∧ (¬ (bI (decide (f_2 < (R_7.Q.G p_12).n) && gsB (R_7.Q.G p_12) e0_1 m_13 kd_14 f_2)) = 0 → ((0 ≤ (knd (R.Q.G p) e m kd) → (∃ k1, k1 < (1000 + 10 * ((R.Q.G p).n - e) + 5) ∧ I_wp4 t p r F z Y R kz o S k1 [(0, .inr (.inr (some t))), (1, .inl (nI p)), (2, .inr (.inr r)), (3, .inr (.inr (some (Y p 0)))), (4, .inl (stI (gW R p o (e + 1)).2.2.2.1)), (5, .inl (nI e)), (6, .inl (nI fi)), (7, .inl (nI m)), (8, .inl (knd (R.Q.G p) e m kd)), (9, .inl (nI f))] [] S_15 0 0)) ∧ (¬ 0 ≤ (knd (R.Q.G p) e m kd) → (isO S_15 13 (Y p 0) ∧ (pa (mR S_15 1310 (Y p 0)) fun a_16 => ∃ v_17 : Int32, (isO S_15 17 a_16 ∧ inR S_15 a_16 (nI f) ∧ v_17 = eI S_15 a_16 (nI f).toNatClampNeg ∨ a_16 = (mQ S_15).1 ∧ vp_in (nI f) 16 ∧ v_17 = mRem (nI f).toNatClampNeg) ∧ (isO S_15 13 (Y p 0) ∧ (pa (mR S_15 1310 (Y p 0)) fun a_18 => ∃ v_19 : Int32, (isO S_15 17 a_18 ∧ inR S_15 a_18 (nI e) ∧ v_19 = eI S_15 a_18 (nI e).toNatClampNeg ∨ a_18 = (mQ S_15).1 ∧ vp_in (nI e) 16 ∧ v_19 = mRem (nI e).toNatClampNeg) ∧ ((¬ v_17 = v_19 → (∃ k1, k1 < (1000 + 10 * ((R.Q.G p).n - e) + 5) ∧ I_wp4 t p r F z Y R kz o S k1 [(0, .inr (.inr (some t))), (1, .inl (nI p)), (2, .inr (.inr r)), (3, .inr (.inr (some (Y p 0)))), (4, .inl (stI (gW R p o (e + 1)).2.2.2.1)), (5, .inl (nI e)), (6, .inl (nI fi)), (7, .inl (nI m)), (8, .inl (2 : Int32)), (9, .inl (nI f))] [] S_15 0 0)) ∧ (v_17 = v_19 → (∃ k1, k1 < (1000 + 10 * ((R.Q.G p).n - e) + 5) ∧ I_wp4 t p r F z Y R kz o S k1 [(0, .inr (.inr (some t))), (1, .inl (nI p)), (2, .inr (.inr r)), (3, .inr (.inr (some (Y p 0)))), (4, .inl (stI (gW R p o (e + 1)).2.2.2.1)), (5, .inl (nI e)), (6, .inl (nI fi)), (7, .inl (nI m)), (8, .inl (1 : Int32)), (9, .inl (nI f))] [] S_15 0 0))))))))))))))))
      obtain ⟨hM, hA, hp4, ho4, rfl⟩ := hp
      obtain ⟨hen, hfi, hm1, hme, hb, hcu, hkd, hk3, hsp, hT, hB, hX⟩ := id hN
      have hGT := (hA p hp4).1
      refine ⟨rfl, e, rfl, f, rfl, S, F, z, Y, R, kz, _, _, _, p, m, kd, ⟨hT, hA, hp4, rfl, hen, hb.2.1, rfl, hkd⟩, by decide, by decide, fun S15 W15 => ?_⟩
      have hN2 : wpN S S15 F t z Y R kz p o e f fi m kd := ⟨hen, hfi, hm1, hme, hb, hcu, hkd, hk3, hsp, W15, hB, hX⟩
      have g := (W15.1 2 p hp4).2.1
      have hnm := g.nm
      refine ⟨fun q => ?_, fun q => ?_⟩
      · rw [bI_0] at q
        have hgs : f < (R.Q.G p).n → gsB (R.Q.G p) e m kd f = false := fun w => by
          rw [decide_eq_true w, Bool.true_and] at q; exact q
        by_cases c : ((R.Q.G p).ev e).ch = none ∧ m = 1
        · have ek : knd (R.Q.G p) e m kd = -1 := if_pos c
          have hk1 : kd = 1 := by rcases hkd.2 c.1 with q | q <;> omega
          rw [ek]
          refine ⟨fun q => absurd q (by decide), fun _ => ⟨1000 + 10 * ((R.Q.G p).n - e) + 3, by omega, e, f, fi, m, kd, rfl, hN2, hgs, ?_, rfl, rfl, rfl⟩⟩
          rw [hk1]; rfl
        · have ek : knd (R.Q.G p) e m kd = nI kd := if_neg c
          rw [ek]
          exact ⟨fun _ => ⟨1000 + 10 * ((R.Q.G p).n - e) + 3, by omega, e, f, fi, m, kd, rfl, hN2, hgs, rfl, rfl, rfl, rfl⟩, fun q => absurd (Int32.not_lt.1 (nI_pos (by omega))) q⟩
      · rw [bI_0, Bool.not_eq_false, Bool.and_eq_true, decide_eq_true_iff] at q
        obtain ⟨hfn, hgs⟩ := q
        have gs := gsB_on.1 hgs
        have i1 := hGT.2.2.2.2.2 f hfn
        have i2 := hGT.2.2.2.2.2 e hen
        by_cases c : ((R.Q.G p).ev e).ch = none ∧ m = 1
        · have ek : knd (R.Q.G p) e m kd = -1 := if_pos c
          have hk1 : kd = 1 := by rcases hkd.2 c.1 with q | q <;> omega
          have hcf := gs.2.2.2.1.2 c.1
          obtain ⟨-, xf⟩ := g.e9 hGT.2.1 hfn
          obtain ⟨-, xe⟩ := g.e9 hGT.2.1 hen
          have hal : ((R.Q.G p).ev f).ix = ((R.Q.G p).ev e).ix ∨ ((R.Q.G p).ev f).ix + 1 = ((R.Q.G p).ev e).ix := by
            rcases gs.2.2.2.2 with q | q
            · exact absurd hcf q.1
            · rcases q.2 with q | q
              · exact Or.inl q.1
              · exact Or.inr q.1
          rw [ek]
          refine ⟨fun q => absurd q (by decide), fun _ => ⟨(g 0).1, rdI (v := nI ((R.Q.G p).ev f).ix) g.r10.1 g.r10.2.1 (inRn g.r10.2.2 (by omega) (by decide)) xf ⟨(g 0).1, rdI (v := nI ((R.Q.G p).ev e).ix) g.r10.1 g.r10.2.1 (inRn g.r10.2.2 (by omega) (by decide)) xe (if_ne (by omega) (by omega) (fun q => ⟨1000 + 10 * ((R.Q.G p).n - e) + 4, by omega, e, f, fi, m, kd, rfl, hN2, hfn, hgs, ?_, rfl, rfl, rfl⟩) (fun q => ⟨1000 + 10 * ((R.Q.G p).n - e) + 4, by omega, e, f, fi, m, kd, rfl, hN2, hfn, hgs, ?_, rfl, rfl, rfl⟩))⟩⟩⟩
          · rw [kdN, if_pos ⟨hcf, by omega⟩]; rfl
          · rw [kdN, if_neg (fun w => by omega), hk1]; rfl
        · have ek : knd (R.Q.G p) e m kd = nI kd := if_neg c
          rw [ek]
          refine ⟨fun _ => ⟨1000 + 10 * ((R.Q.G p).n - e) + 4, by omega, e, f, fi, m, kd, rfl, hN2, hfn, hgs, ?_, rfl, rfl, rfl⟩, fun q => absurd (Int32.not_lt.1 (nI_pos (by omega))) q⟩
          have : kdN (R.Q.G p) e f kd = kd := by
            unfold kdN
            split
            · next w =>
              rcases gs.2.2.2.2 with q | q
              · exact absurd w.1 q.1
              · rcases q.2 with q9 | q9
                · omega
                · rcases q9.2 with q8 | q8
                  · exact absurd ⟨gs.2.2.2.1.1 w.1, q8⟩ c
                  · exact q8.symm
            · rfl
          rw [this]
    · cases hm
      obtain ⟨e, f, fi, m, kd, rfl, hN, hfn, hgs, rfl, rfl, rfl, rfl⟩ := h
      refine ⟨300, ?_⟩
      show (0 = 0 ∧ (∃ (e_1 : Nat), nI f = nI e_1 ∧ (∃ (F_2 : Nat → Nat × Nat) (z_3 : Nat → Nat) (Y_4 : Nat → Nat → Nat) (R_5 : Rb) (kz_6 : Nat → Nat) (p_7 : Nat) (U_8 : List Nat), (MD S1 F_2 t z_3 Y_4 R_5 kz_6 ∧ p_7 < 4 ∧ (Y p 0) = Y_4 p_7 0 ∧ e_1 < (R_5.Q.G p_7).n ∧ (((R_5.Q.G p_7).ev e_1).ch = none → ((R_5.Q.G p_7).ev e_1).tg < 8192) ∧ (∀ c, ((R_5.Q.G p_7).ev e_1).ch = some c → c < 2000000) ∧ Ou S1 (z_3 30) (z_3 (70 + 30)) U_8 ∧ U_8.length + 4 ≤ 1000000) ∧ 0 ≤ 1 ∧ 0 ≤ 6 ∧ (∀ (S_9 : MM), (ouQ S1 S_9 F_2 t z_3 Y_4 R_5 kz_6 30 (U_8 ++ rU1 ((R_5.Q.G p_7).ev e_1).ch)) → (2 = 2 ∧ (∃ (F_10 : Nat → Nat × Nat) (i_11 : Nat) (y_12 : Nat → Nat) (G_13 : Gr) (T_14 : Tr) (Ko_15 : Option (Nat → Nat)) (x_16 : Nat), ((Y p 0) = y_12 0 ∧ RG S_9 F_10 i_11 y_12 G_13 T_14 ∧ knO S_9 r Ko_15 ∧ (nI f) + 1 = nI x_16 ∧ x_16 ≤ G_13.n) ∧ 0 ≤ 1 ∧ 0 ≤ 6 ∧ (∀ (x_18 : Int32), (∃ f, x_18 = nI f ∧ bhV G_13 Ko_15 x_16 f) → (∃ k1, k1 < (1000 + 10 * ((R.Q.G p).n - e) + 4) ∧ I_wp3 t p r F z Y R kz o S k1 [(0, .inr (.inr (some t))), (1, .inl (nI p)), (2, .inr (.inr r)), (3, .inr (.inr (some (Y p 0)))), (4, .inl (stI (gW R p o (e + 1)).2.2.2.1)), (5, .inl (nI f)), (6, .inl (nI fi)), (7, .inl ((nI m) + (1 : Int32))), (8, .inl (nI (kdN (R.Q.G p) e f kd))), (9, .inl x_18)] [] S_9 0 0))))))))
      obtain ⟨hM, hA, hp4, ho4, rfl⟩ := hp
      obtain ⟨hen, hfi, hm1, hme, hb, hcu, hkd, hk3, hsp, hT, hB, hX⟩ := id hN
      have M1 := hT.1
      have g := (M1 2 p hp4).2.1
      have hnm := g.nm
      have hGT := (hA p hp4).1
      have gs := gsB_on.1 hgs
      have e1 : gW R p o f = gW R p o (e + 1) := gaS_sk hb.1 hb.2.2.1
      have eg : gW R p o (f + 1) = _ := (gaS_st (hb.2.2.2 hfn)).trans (aeS_on (s := gaS (R.Q.G p) (R.Q.Kn p) o vE0 f) (by rw [show gaS (R.Q.G p) (R.Q.Kn p) o vE0 f = gW R p o (e + 1) from e1]; exact hcu) hgs)
      rw [show gaS (R.Q.G p) (R.Q.Kn p) o vE0 f = gW R p o (e + 1) from e1] at eg
      have l5 : ((gW R p o (e + 1)).1 5).length ≤ 4 * (e + 1) := hB.2.2.2.2.2
      have hfe : e + 1 ≤ f := hb.1
      refine ⟨rfl, f, rfl, F, z, Y, R, kz, p, vB ((gW R p o (e + 1)).1 5), ⟨M1, hp4, rfl, hfn, fun q => ?_, fun c q => (hGT.2.1 f hfn).1 c q, hT.2.1 5 (by decide), by rw [vB_len]; omega⟩, by decide, by decide, fun S9 hQ => ?_⟩
      · have := ((hGT.2.1 f hfn).2 q).1
        omega
      · have W9 := wpS.wr hT hQ (fun c q => (hGT.2.1 f hfn).1 c q)
        have B9 := (wpB.wr (oc := ((R.Q.G p).ev f).ch) hB).mono (show e ≤ f by omega) (show e + 1 + 1 ≤ f + 1 by omega)
        have M9 := W9.1
        refine ⟨rfl, F, 101 + p, Y p, R.Q.G p, R.Q.T p, o.map (R.Q.Kn p), f + 1, ⟨rfl, (M9 2 p hp4).2.1, M9.kno hp4 ho4, nI_1 _, hfn⟩, by decide, by decide, fun v hv => ?_⟩
        obtain ⟨f2, rfl, hb2⟩ := hv
        have hal : (((R.Q.G p).ev f).ch ≠ none ∧ ((R.Q.G p).ev f).ix = ((R.Q.G p).ev e).ix + 1 ∧ kd = 0 ∧ kdN (R.Q.G p) e f kd = 0) ∨ (((R.Q.G p).ev f).ch = none ∧ ((R.Q.G p).ev f).ix = ((R.Q.G p).ev e).ix ∧ kd = 1 ∧ kdN (R.Q.G p) e f kd = 1) ∨ (((R.Q.G p).ev f).ch = none ∧ ((R.Q.G p).ev f).ix + 1 = ((R.Q.G p).ev e).ix ∧ (m = 1 ∧ kd = 1 ∨ kd = 2) ∧ kdN (R.Q.G p) e f kd = 2) := by
          rcases gs.2.2.2.2 with q | ⟨q, q9⟩
          · have := hkd.1 (fun w => q.1 (gs.2.2.2.1.2 w))
            exact Or.inl ⟨q.1, q.2, this, by rw [kdN, if_neg (fun w => q.1 w.1)]; exact this⟩
          · have hce := gs.2.2.2.1.1 q
            rcases q9 with q9 | q9
            · exact Or.inr (Or.inl ⟨q, q9.1, q9.2, by rw [kdN, if_neg (fun w => by omega)]; exact q9.2⟩)
            · refine Or.inr (Or.inr ⟨q, q9.1, ?_, by rw [kdN, if_pos ⟨q, by omega⟩]⟩)
              rcases q9.2 with w | w
              · exact Or.inl ⟨w, by rcases hkd.2 hce with y | y <;> omega⟩
              · exact Or.inr w
        generalize hk9 : kdN (R.Q.G p) e f kd = kd2 at *
        have eg2 : gW R p o (f + 1) = (wU (gW R p o (e + 1)).1 ((R.Q.G p).ev f).ch, (gW R p o (e + 1)).2.1, some (fi, f, m + 1, kd2), (gW R p o (e + 1)).2.2.2.1, (gW R p o (e + 1)).2.2.2.2) := by rw [eg, ← hk9]; rfl
        refine ⟨1000 + 10 * ((R.Q.G p).n - f) + 5, by omega, f, f2, fi, m + 1, kd2, rfl, ⟨hfn, hfi, by omega, by omega, hb2, by rw [eg2], ⟨fun q => ?_, fun q => ?_⟩, ?_, ⟨fun q => ?_, fun q => ?_, fun q => ?_⟩, by rw [eg2]; exact W9, by rw [eg2]; exact B9, by rw [eg2]; exact hX⟩, ?_, rfl, rfl, rfl⟩
        · rcases hal with w | w | w
          · exact w.2.2.2
          · exact absurd w.1 q
          · exact absurd w.1 q
        · rcases hal with w | w | w
          · exact absurd q w.1
          · exact Or.inl w.2.2.2
          · exact Or.inr ⟨w.2.2.2, by omega⟩
        · rcases hal with w | w | w <;> omega
        · rcases hal with w | w | w
          · have := hsp.1 w.2.2.1; omega
          · omega
          · omega
        · rcases hal with w | w | w
          · omega
          · have := hsp.2.1 w.2.2.1; omega
          · omega
        · rcases hal with w | w | w
          · omega
          · omega
          · rcases w.2.2.1 with y | y
            · have := hsp.2.1 y.2; omega
            · have := hsp.2.2 y; omega
        · rw [eg2, nI_1, knd, if_neg (fun q => by omega)]
    · cases hm
      obtain ⟨e, f, fi, m, kd, rfl, hN, hgs, rfl, rfl, rfl, rfl⟩ := h
      refine ⟨300, ?_⟩
      show (0 = 0 ∧ (∃ (f_1 : Nat), nI fi = nI f_1 ∧ (∃ (m_2 : Nat), nI m = nI m_2 ∧ (∃ (kd_3 : Nat), nI kd = nI kd_3 ∧ (∃ (S0_4 : MM) (F_5 : Nat → Nat × Nat) (z_6 : Nat → Nat) (Y_7 : Nat → Nat → Nat) (R_8 : Rb) (kz_9 : Nat → Nat) (V_10 : Nat → List Int32) (M_11 : List Nat) (x_12 p_13 e0_14 : Nat) (sb_15 : Option Nat), (wpS S0_4 S1 F_5 t z_6 Y_7 R_8 kz_9 V_10 M_11 (exI x_12) ∧ AbC R_8 ∧ p_13 < 4 ∧ (Y p 0) = Y_7 p_13 0 ∧ f_1 < (R_8.Q.G p_13).n ∧ e0_14 < (R_8.Q.G p_13).n ∧ m_2 ≤ 8192 ∧ kd_3 < 3 ∧ x_12 ≤ 20000 ∧ (stI (gW R p o (e + 1)).2.2.2.1) = stI sb_15 ∧ (∀ q, sb_15 = some q → q < (R_8.Q.G p_13).n) ∧ spE (R_8.Q.G p_13) f_1 e0_14 m_2 kd_3 ∧ (V_10 1).length + 100 ≤ 1000000 ∧ (V_10 2).length + 200 ≤ 1000000 ∧ (V_10 3).length + 100 ≤ 1000000) ∧ 0 ≤ 1 ∧ 0 ≤ 6 ∧ (∀ (S_16 : MM), (wpS S0_4 S_16 F_5 t z_6 Y_7 R_8 kz_9 (csV (R_8.Q.G p_13) V_10 M_11 (some (f_1, e0_14, m_2, kd_3)) sb_15 (exI x_12)) (csM (R_8.Q.G p_13) M_11 (some (f_1, e0_14, m_2, kd_3)) sb_15) (csE (R_8.Q.G p_13) (some (f_1, e0_14, m_2, kd_3)) (exI x_12))) → (∃ k1, k1 < (1000 + 10 * ((R.Q.G p).n - e) + 3) ∧ I_wp1 t p r F z Y R kz o S k1 [(0, .inr (.inr (some t))), (1, .inl (nI p)), (2, .inr (.inr r)), (3, .inr (.inr (some (Y p 0)))), (4, .inl (nI e)), (5, .inl (nI f))] [] S_16 0 0)))))))
      obtain ⟨hM, hA, hp4, ho4, rfl⟩ := hp
      obtain ⟨hen, hfi, hm1, hme, hb, hcu, hkd, hk3, hsp, hT, hB, hX⟩ := id hN
      have g := (hT.1 2 p hp4).2.1
      have hnm := g.nm
      have hGT := (hA p hp4).1
      have i1 := hGT.2.2.2.2.2 fi hfi
      have i2 := hGT.2.2.2.2.2 e hen
      have hfe : e + 1 ≤ f := hb.1
      obtain ⟨⟨x, hx, hex⟩, hsb⟩ := hX
      obtain ⟨c0, c4, c1, c2, c3, c5⟩ := id hB
      have hT2 : wpS S S1 F t z Y R kz (gW R p o (e + 1)).1 (gW R p o (e + 1)).2.1 (exI x) := by rw [← hex]; exact hT
      have e1 : gW R p o f = gW R p o (e + 1) := gaS_sk hb.1 hb.2.2.1
      have ecl : clW (R.Q.G p) (gW R p o f) = (csV (R.Q.G p) (gW R p o (e + 1)).1 (gW R p o (e + 1)).2.1 (some (fi, e, m, kd)) (gW R p o (e + 1)).2.2.2.1 (exI x), csM (R.Q.G p) (gW R p o (e + 1)).2.1 (some (fi, e, m, kd)) (gW R p o (e + 1)).2.2.2.1, none, some e, csE (R.Q.G p) (some (fi, e, m, kd)) (exI x)) := by
        rw [e1]
        unfold clW
        rw [hcu, hex]
        rfl
      refine ⟨rfl, fi, rfl, m, rfl, kd, rfl, S, F, z, Y, R, kz, _, _, x, p, e, _, ⟨hT2, hA, hp4, rfl, hfi, hen, by omega, hk3, by omega, rfl, hsb, hsp, by omega, by omega, by omega⟩, by decide, by decide, fun S16 W16 => ?_⟩
      obtain ⟨x2, hx2, hex2⟩ := csE_ex (G := R.Q.G p) (f := fi) (m := m) (x := x) i2 hk3
      have B2 := csV_B (l := e) (sb := (gW R p o (e + 1)).2.2.2.1) g.ok hB hfi i1 (show m ≤ 8192 by omega) hk3 (show x ≤ 20000 by omega) hT.2.2.1.2.2.1 hT.2.2.1.2.2.2
      refine ⟨1000 + 10 * ((R.Q.G p).n - f) + 9, by omega, f, rfl, ⟨hb.2.1, fun hlt => ⟨hb.2.2.2 hlt, ?_⟩, ?_, ?_, ?_⟩, ?_, rfl, rfl, rfl⟩
      · rw [e1, hcu]; exact hgs hlt
      · rw [ecl]; exact W16
      · rw [ecl]; exact B2.mono hfe hfe
      · rw [ecl]
        exact ⟨⟨x2, hx2, hex2⟩, fun q h9 => by cases h9; exact hen⟩
      · rw [ecl]; rfl
    · cases hm
      obtain ⟨j, ex, rfl, hj, hW, hl0, hB, rfl, rfl, rfl, rfl⟩ := h
      refine ⟨300, ?_⟩
      show (isO S1 15 t ∧ (((mI S1 1532 t) ≤ (nI j) → (0 = 0 ∧ (∃ (S0_1 : MM) (F_2 : Nat → Nat × Nat) (z_3 : Nat → Nat) (Y_4 : Nat → Nat → Nat) (R_5 : Rb) (kz_6 : Nat → Nat) (V_7 : Nat → List Int32) (M_8 : List Nat) (ex_9 : Int32), (wpS S0_1 S1 F_2 t z_3 Y_4 R_5 kz_6 V_7 M_8 ex_9 ∧ V_7 4 = [] ∧ (V_7 5).length ≤ 32768) ∧ 0 ≤ 1 ∧ 0 ≤ 6 ∧ (∀ (S_10 : MM), (wpS S0_1 S_10 F_2 t z_3 Y_4 R_5 kz_6 (updI V_7 4 (packV (vB (V_7 5)))) M_8 ex_9 ∧ (packV (vB (V_7 5))).length ≤ 100000) → (∃ k1, k1 < (300 + ((wpL R p o).length - j)) ∧ I_wp7 t p F z Y R kz o S k1 [(0, .inr (.inr (some t))), (1, .inl (nI p))] [] S_10 0 0))))) ∧ (¬ (mI S1 1532 t) ≤ (nI j) → (isO S1 15 t ∧ (isO S1 15 t ∧ (pa (mR S1 1531 t) fun a_11 => ∃ v_12 : Int32, (isO S1 17 a_11 ∧ inR S1 a_11 (nI j) ∧ v_12 = eI S1 a_11 (nI j).toNatClampNeg ∨ a_11 = (mQ S1).1 ∧ vp_in (nI j) 16 ∧ v_12 = mRem (nI j).toNatClampNeg) ∧ (0 = 0 ∧ ((pa (mR S1 1525 t) fun a_13 => (∃ (cb_14 : Nat) (B_15 : List Nat) (n_16 : Nat), (Ou S1 a_13 cb_14 B_15 ∧ v_12.toInt64 = lN n_16 ∧ n_16 < 2 ^ 35 ∧ B_15.length + 5 ≤ 1000000) ∧ 0 ≤ 1 ∧ 0 ≤ 6 ∧ (∀ (S_17 : MM), (ouP S1 S_17 a_13 cb_14 (B_15 ++ vbN 5 n_16)) → (∃ k1, k1 < (300 + ((wpL R p o).length - j)) ∧ I_wp6 t p F z Y R kz o S k1 [(0, .inr (.inr (some t))), (1, .inl (nI p)), (6, .inl ((nI j) + (1 : Int32)))] [] S_17 0 0))))))))))))
      obtain ⟨hM, hA, hp4, ho4, rfl⟩ := hp
      have M1 := hW.1
      have g := (M1 2 p hp4).2.1
      have hnm := g.nm
      have e32 : mI S1 1532 t = nI (wpL R p o).length := hW.2.2.1.1
      have hml : (wpL R p o).length ≤ 256 := hW.ml
      have r31 := M1 1 31 (by decide)
      obtain ⟨c0, c4, c1, c2, c3, c5⟩ := id hB
      rw [e32]
      refine ⟨(M1 0).1, if_le (by omega) (by omega) (fun w => ?_) (fun w => ?_)⟩
      · have hjl : j = (wpL R p o).length := by omega
        subst hjl
        have l5 : (wpA R p o (wpL R p o).length 5).length ≤ 32768 := by
          show (gaV (R.Q.G p) (R.Q.Kn p) o vE0 5).length ≤ _
          omega
        refine ⟨rfl, S, F, z, Y, R, kz, _, _, _, ⟨hW, c4, l5⟩, by decide, by decide, fun S10 h10 => ?_⟩
        obtain ⟨W10, l10⟩ := h10
        have eR9 : gaR (R.Q.G p) (R.Q.Kn p) o vE0 = vB (wpA R p o (wpL R p o).length 5) := by
          unfold gaR
          rw [bPuts_fit (by rw [List.length_nil, Nat.zero_add]; exact l5), List.nil_append]
          rfl
        have eF : wpF R p o = updI (wpA R p o (wpL R p o).length) 4 (packV (vB (wpA R p o (wpL R p o).length 5))) := by
          rw [← eR9]; rfl
        refine ⟨100, by omega, ex, rfl, by rw [eF]; exact W10, ?_, rfl, rfl, rfl, rfl⟩
        rw [eF]
        show (wpA R p o (wpL R p o).length 0).length + (gaV (R.Q.G p) (R.Q.Kn p) o vE0 1).length + (gaV (R.Q.G p) (R.Q.Kn p) o vE0 2).length + (gaV (R.Q.G p) (R.Q.Kn p) o vE0 3).length + (packV (vB (wpA R p o (wpL R p o).length 5))).length ≤ _
        omega
      · have hm9 : (wpL R p o).getD j 0 ∈ wpL R p o := by
          rw [List.getD_eq_getElem?_getD, List.getElem?_eq_getElem w]
          exact List.getElem_mem w
        have h256 := hW.2.2.1.2.2.2 _ hm9
        have b2 := vbs_le2 (v := (wpL R p o).getD j 0) (by omega)
        have hW2 : wpS S S1 F t z Y R kz (updI (gaV (R.Q.G p) (R.Q.Kn p) o vE0) 0 (gaV (R.Q.G p) (R.Q.Kn p) o vE0 0 ++ mtV (wpL R p o) j)) (wpL R p o) ex := hW
        refine ⟨(M1 0).1, (M1 0).1, rdI (v := nI ((wpL R p o).getD j 0)) r31.1 r31.2.2.1 (inRn (N := 256) r31.2.2.2 (by omega) (by decide)) (by rw [nI_clamp (by omega)]; exact hW.2.2.1.2.1 j w) ⟨rfl, pa_i (M1 10 25 (Or.inr (by decide))).1 ⟨z (70 + 25), _, (wpL R p o).getD j 0, ⟨hW.2.1 0 (by decide), nI_l (by omega), by omega, by rw [vB_len]; omega⟩, by decide, by decide, fun S17 q => ?_⟩⟩⟩
        have W17 := hW2.numX (k0 := 0) (by decide) (by omega) q
        refine ⟨300 + ((wpL R p o).length - (j + 1)), by omega, j + 1, ex, rfl, w, ?_, ?_, hB, by rw [nI_1], rfl, rfl, rfl⟩
        · rw [List.append_assoc] at W17
          exact W17
        · have hl0 : (gaV (R.Q.G p) (R.Q.Kn p) o vE0 0 ++ mtV (wpL R p o) j).length ≤ 2 + 2 * j := hl0
          show (gaV (R.Q.G p) (R.Q.Kn p) o vE0 0 ++ (mtV (wpL R p o) j ++ vbs 4 (nI ((wpL R p o).getD j 0)))).length ≤ _
          rw [← List.append_assoc, List.length_append]; omega
    · cases hm
      obtain ⟨ex, rfl, hW, hl, rfl, rfl, rfl, rfl⟩ := h
      refine ⟨300, ?_⟩
      show (0 = 0 ∧ (∃ (k2_1 : Nat), (1 : Int32) = nI k2_1 ∧ (∃ (p_2 : Nat), nI p = nI p_2 ∧ (∃ (F_3 : Nat → Nat × Nat) (z_4 : Nat → Nat) (Y_5 : Nat → Nat → Nat) (R_6 : Rb) (kz_7 : Nat → Nat), (MD S1 F_3 t z_4 Y_5 R_6 kz_7 ∧ k2_1 < 256 ∧ p_2 < 256) ∧ 0 ≤ 1 ∧ 0 ≤ 6 ∧ (∀ (S_8 : MM), (ouQ S1 S_8 F_3 t z_4 Y_5 R_6 kz_7 21 [87, k2_1, p_2]) → (isO S_8 15 t ∧ (isO S_8 15 t ∧ (0 = 0 ∧ ((pa (mR S_8 1521 t) fun a_9 => ((pa (mR S_8 1525 t) fun a_10 => (∃ (cb_11 cb2_12 : Nat) (B_13 B2_14 : List Nat), (Ou S_8 a_9 cb_11 B_13 ∧ Ou S_8 a_10 cb2_12 B2_14 ∧ a_9 ≠ a_10 ∧ cb_11 ≠ cb2_12 ∧ B_13.length + 5 + B2_14.length ≤ 1000000) ∧ 0 ≤ 1 ∧ 0 ≤ 6 ∧ (∀ (S_15 : MM), (ouP S_8 S_15 a_9 cb_11 (B_13 ++ (vbN 5 B2_14.length ++ clp B2_14))) → (isO S_15 15 t ∧ (isO S_15 15 t ∧ (0 = 0 ∧ ((pa (mR S_15 1521 t) fun a_16 => ((pa (mR S_15 1526 t) fun a_17 => (∃ (cb_18 cb2_19 : Nat) (B_20 B2_21 : List Nat), (Ou S_15 a_16 cb_18 B_20 ∧ Ou S_15 a_17 cb2_19 B2_21 ∧ a_16 ≠ a_17 ∧ cb_18 ≠ cb2_19 ∧ B_20.length + 5 + B2_21.length ≤ 1000000) ∧ 0 ≤ 1 ∧ 0 ≤ 6 ∧ (∀ (S_22 : MM), (ouP S_15 S_22 a_16 cb_18 (B_20 ++ (vbN 5 B2_21.length ++ clp B2_21))) → (isO S_22 15 t ∧ (isO S_22 15 t ∧ (0 = 0 ∧ ((pa (mR S_22 1521 t) fun a_23 => ((pa (mR S_22 1527 t) fun a_24 => (∃ (cb_25 cb2_26 : Nat) (B_27 B2_28 : List Nat), (Ou S_22 a_23 cb_25 B_27 ∧ Ou S_22 a_24 cb2_26 B2_28 ∧ a_23 ≠ a_24 ∧ cb_25 ≠ cb2_26 ∧ B_27.length + 5 + B2_28.length ≤ 1000000) ∧ 0 ≤ 1 ∧ 0 ≤ 6 ∧ (∀ (S_29 : MM), (ouP S_22 S_29 a_23 cb_25 (B_27 ++ (vbN 5 B2_28.length ++ clp B2_28))) → (isO S_29 15 t ∧ (isO S_29 15 t ∧ (0 = 0 ∧ ((pa (mR S_29 1521 t) fun a_30 => ((pa (mR S_29 1528 t) fun a_31 => (∃ (cb_32 cb2_33 : Nat) (B_34 B2_35 : List Nat), (Ou S_29 a_30 cb_32 B_34 ∧ Ou S_29 a_31 cb2_33 B2_35 ∧ a_30 ≠ a_31 ∧ cb_32 ≠ cb2_33 ∧ B_34.length + 5 + B2_35.length ≤ 1000000) ∧ 0 ≤ 1 ∧ 0 ≤ 6 ∧ (∀ (S_36 : MM), (ouP S_29 S_36 a_30 cb_32 (B_34 ++ (vbN 5 B2_35.length ++ clp B2_35))) → (isO S_36 15 t ∧ (isO S_36 15 t ∧ (0 = 0 ∧ ((pa (mR S_36 1521 t) fun a_37 => ((pa (mR S_36 1529 t) fun a_38 => (∃ (cb_39 cb2_40 : Nat) (B_41 B2_42 : List Nat), (Ou S_36 a_37 cb_39 B_41 ∧ Ou S_36 a_38 cb2_40 B2_42 ∧ a_37 ≠ a_38 ∧ cb_39 ≠ cb2_40 ∧ B_41.length + 5 + B2_42.length ≤ 1000000) ∧ 0 ≤ 1 ∧ 0 ≤ 6 ∧ (∀ (S_43 : MM), (ouP S_36 S_43 a_37 cb_39 (B_41 ++ (vbN 5 B2_42.length ++ clp B2_42))) → (isO S_43 15 t ∧ (pa (mR S_43 1521 t) fun a_44 => isO S_43 14 a_44 ∧ ((((mI S_43 1401 a_44) + (4 : Int32)) ≤ (32768 : Int32) → (0 = 0 ∧ (∃ (F_45 : Nat → Nat × Nat) (z_46 : Nat → Nat) (Y_47 : Nat → Nat → Nat) (R_48 : Rb) (kz_49 : Nat → Nat) (B_50 : List Nat), (MD S_43 F_45 t z_46 Y_47 R_48 kz_49 ∧ Ou S_43 (z_46 21) (z_46 (70 + 21)) B_50 ∧ B_50.length ≤ 32768) ∧ 0 ≤ 1 ∧ 0 ≤ 6 ∧ (∀ (S_51 : MM), (ouQ S_43 S_51 F_45 t z_46 Y_47 R_48 kz_49 21 (B_50 ++ (List.range 4).map (clB (crB B_50 B_50.length ^^^ -1)))) → (([] : List MV) = [] ∧ mret none (sp_rwp t p r F z Y R kz o) [.inr (.inr (some t)), .inl (nI p), .inr (.inr r)] S none S_51 0 0))))) ∧ (¬ ((mI S_43 1401 a_44) + (4 : Int32)) ≤ (32768 : Int32) → (mthr (sp_rwp t p r F z Y R kz o) [.inr (.inr (some t)), .inl (nI p), .inr (.inr r)] S 0 S_43 (0 + 1) (0 + 6))))))))))))))))))))))))))))))))))))))))))))))))))))))))
      obtain ⟨hM, hA, hp4, ho4, rfl⟩ := hp
      obtain ⟨M1, C1, -, -, K1, f1⟩ := hW
      refine ⟨rfl, 1, rfl, p, rfl, F, z, Y, R, kz, ⟨M1, by decide, by omega⟩, by decide, by decide, fun S8 hQ => ?_⟩
      have W8 : cmS S S8 F t z Y R kz (wpF R p o) (rmB (wpF R p o) p 0) := cmS.st M1 C1 K1 f1 hQ.2.1 hQ.2.2
      have l0 : (rmB (wpF R p o) p 0).length = 3 := rfl
      have l1 : (rmB (wpF R p o) p 1).length ≤ (rmB (wpF R p o) p 0).length + 5 + (wpF R p o 0).length := rmB_len (wpF R p o) p 0
      have l2 : (rmB (wpF R p o) p 2).length ≤ (rmB (wpF R p o) p 1).length + 5 + (wpF R p o 1).length := rmB_len (wpF R p o) p 1
      have l3 : (rmB (wpF R p o) p 3).length ≤ (rmB (wpF R p o) p 2).length + 5 + (wpF R p o 2).length := rmB_len (wpF R p o) p 2
      have l4 : (rmB (wpF R p o) p 4).length ≤ (rmB (wpF R p o) p 3).length + 5 + (wpF R p o 3).length := rmB_len (wpF R p o) p 3
      have l5 : (rmB (wpF R p o) p 5).length ≤ (rmB (wpF R p o) p 4).length + 5 + (wpF R p o 4).length := rmB_len (wpF R p o) p 4
      refine ⟨(W8.1 0).1, (W8.1 0).1, rfl, pa_i (W8.1 10 21 (Or.inl rfl)).1 (pa_i (W8.1 10 25 (Or.inr (by decide))).1 ⟨z (70 + 21), z (70 + 25), _, _, W8.pre (k := 0) (by decide) (by omega), by decide, by decide, fun S15 q15 => ?_⟩)⟩
      have W15 : cmS S S15 F t z Y R kz (wpF R p o) (rmB (wpF R p o) p 1) := W8.col q15
      refine ⟨(W15.1 0).1, (W15.1 0).1, rfl, pa_i (W15.1 10 21 (Or.inl rfl)).1 (pa_i (W15.1 10 26 (Or.inr (by decide))).1 ⟨z (70 + 21), z (70 + 26), _, _, W15.pre (k := 1) (by decide) (by omega), by decide, by decide, fun S22 q22 => ?_⟩)⟩
      have W22 : cmS S S22 F t z Y R kz (wpF R p o) (rmB (wpF R p o) p 2) := W15.col q22
      refine ⟨(W22.1 0).1, (W22.1 0).1, rfl, pa_i (W22.1 10 21 (Or.inl rfl)).1 (pa_i (W22.1 10 27 (Or.inr (by decide))).1 ⟨z (70 + 21), z (70 + 27), _, _, W22.pre (k := 2) (by decide) (by omega), by decide, by decide, fun S29 q29 => ?_⟩)⟩
      have W29 : cmS S S29 F t z Y R kz (wpF R p o) (rmB (wpF R p o) p 3) := W22.col q29
      refine ⟨(W29.1 0).1, (W29.1 0).1, rfl, pa_i (W29.1 10 21 (Or.inl rfl)).1 (pa_i (W29.1 10 28 (Or.inr (by decide))).1 ⟨z (70 + 21), z (70 + 28), _, _, W29.pre (k := 3) (by decide) (by omega), by decide, by decide, fun S36 q36 => ?_⟩)⟩
      have W36 : cmS S S36 F t z Y R kz (wpF R p o) (rmB (wpF R p o) p 4) := W29.col q36
      refine ⟨(W36.1 0).1, (W36.1 0).1, rfl, pa_i (W36.1 10 21 (Or.inl rfl)).1 (pa_i (W36.1 10 29 (Or.inr (by decide))).1 ⟨z (70 + 21), z (70 + 29), _, _, W36.pre (k := 4) (by decide) (by omega), by decide, by decide, fun S43 q43 => ?_⟩)⟩
      have W43 : cmS S S43 F t z Y R kz (wpF R p o) (rmB (wpF R p o) p 5) := W36.col q43
      obtain ⟨M43, C43, O43, K43, f43⟩ := W43
      have e01 : mI S43 1401 (z 21) = nI (rmB (wpF R p o) p 5).length := O43.2.2.2.2.1
      refine ⟨(M43 0).1, pa_i (M43 10 21 (Or.inl rfl)).1 ⟨O43.1, ?_⟩⟩
      rw [e01, show nI (rmB (wpF R p o) p 5).length + 4 = nI ((rmB (wpF R p o) p 5).length + 4) from nI_add _ 4]
      have l6 : (rmB (wpF R p o) p 5).length ≤ 1000000 := by
        omega
      refine if_le (b := 32768) (by omega) (by decide) (fun w => ?_) (fun w => ?_)
      · refine ⟨rfl, F, z, Y, R, kz, _, ⟨M43, O43, by omega⟩, by decide, by decide, fun S51 hQ => ?_⟩
        obtain ⟨q1, q2, q3⟩ := hQ
        obtain ⟨n1, -, n3, n4, n5⟩ := cmS.st M43 C43 K43 f43 q2 q3
        exact ⟨rfl, trivial, ⟨rfl, ⟨q1, n4, n5⟩, w, n3⟩, Nat.le_of_ble_eq_true rfl, Nat.le_of_ble_eq_true rfl⟩
      · exact ⟨⟨rfl, ⟨M43, K43, f43⟩, w⟩, Nat.le_of_ble_eq_true rfl, Nat.le_of_ble_eq_true rfl⟩
theorem u_rwp (l : Launch) (hlt : l.stackTraces = false) : UsX l yX14_writePatch (Cond.code yX14_writePatch cX14_writePatch 10 none) none 6 94 15 T_rwp := by
  intro Rc Rs av S cs sl K Kx h
  unfold T_rwp at h
  split at h
  · rename_i t_o p_v r
    obtain ⟨t, rfl, h_1⟩ := pa_of h
    obtain ⟨p, rfl, h_2⟩ := h_1
    obtain ⟨F, z, Y, R, kz, o, hp, hc, hs, hk, hx0⟩ := h_2
    refine ⟨(sp_rwp t p r F z Y R kz o), c_rwp l hlt t p r F z Y R kz o, fun _ _ h9 => ⟨_, _, h9.1, (h9.2.1 0).1⟩, ⟨rfl, hp⟩, hc, hs, fun S' h8 => by
      obtain ⟨-, h8⟩ := h8
      exact hk _ h8, fun _ _ q => by
      rcases q with ⟨rfl, q⟩
      · exact hx0 _ q⟩
  · exact h.elim
