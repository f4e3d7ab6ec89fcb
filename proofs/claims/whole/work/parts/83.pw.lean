/-! ===== THE PATCH WRITER IN THE MEMORY ===== -/
def PkF (S : MM) (F : Nat → Nat × Nat) (j pk r nw od : Nat) : Prop := Pk S pk r nw od ∧ F nw = (j, 5) ∧ F od = (j, 6)
theorem PkF.keep {P : Nat → Prop} {S S' : MM} {F F' : Nat → Nat × Nat} {j pk r nw od : Nat} (h : PkF S F j pk r nw od) (hk : Keep P S S') (hp : ¬ P pk) (hf : ∀ b, b ∈ mL S → F' b = F b) : PkF S' F' j pk r nw od := by
  obtain ⟨⟨p1, p2, p3, p4, p5, p6, p7, p8, p9, p10⟩, f1, f2⟩ := h
  have kp := hk.2.1 pk p1.1 hp
  exact ⟨⟨hk.isO p1, (kp.2.1 _).trans p2, (kp.2.1 _).trans p3, hk.isO p4, (hk.1 nw p4.1).2.2.trans p5, (kp.2.1 _).trans p6, hk.isO p7, p8, by rw [(hk.1 od p7.1).2.2]; exact p9, by rw [(hk.1 od p7.1).2.2]; exact p10⟩, (hf nw p4.1).trans f1, (hf od p7.1).trans f2⟩
def PW (S : MM) (F : Nat → Nat × Nat) (j w pk pl me : Nat) (a d : Nat → Nat) (V : Nat → List Int32) (cap : Nat → Nat) (M : List Nat) : Prop :=
  F w = (j, 1) ∧ F pl = (j, 2) ∧ F me = (j, 3) ∧ F pk = (j, 4) ∧ MetR S w pl me M ∧ (∀ k, k < 5 → mR S (1000 + k) w = some (a k)) ∧ mR S 1005 w = some pk ∧ isO S 8 pk ∧ mR S 800 pk = some (a 5) ∧ WC S F j a d V cap ∧ FO S F ∧ j ≠ 0 ∧ PkF S F j pk (a 5) (a 6) (a 7)
theorem MetR.keep {P : Nat → Prop} {S S' : MM} {w pl me : Nat} {M : List Nat} (h : MetR S w pl me M) (hk : Keep P S S') (h1 : ¬ P w) (h2 : ¬ P pl) (h3 : ¬ P me) : MetR S' w pl me M := by
  obtain ⟨m1, m2, m3, m4, m5, m6, m7, m8, m9, nd, lt, p1, p2⟩ := h
  have kw := hk.2.1 w m1.1 h1
  refine ⟨hk.isO m1, (kw.2.1 _).trans m2, hk.isO m3, (hk.1 pl m3.1).2.2.trans m4, (kw.2.1 _).trans m5, hk.isO m6, (hk.1 me m6.1).2.2.trans m7, m8, (kw.1 _).trans m9, nd, lt, fun x hx => ?_, fun k hk9 => ?_⟩
  · rw [(hk.2.1 pl m3.1 h2).2.2.2.1]; exact p1 x hx
  · rw [(hk.2.1 me m6.1 h3).2.2.2.1]; exact p2 k hk9
section PWS
variable {S S' S1 S2 : MM} {F F1 F2 : Nat → Nat × Nat} {j w pk pl me : Nat} {a d : Nat → Nat} {V : Nat → List Int32} {cap : Nat → Nat} {M : List Nat}
theorem PW.app {k d' : Nat} {ws : List Int32} (h : PW S F j w pk pl me a d V cap M) (hk6 : k < 6) (ha : App S S' (a k) (d k) d' (bPuts [] (V k)) ws) : ∃ F' d2, PW S' F' j w pk pl me a d2 (updI V k (V k ++ ws)) cap M ∧ (∀ b, b ∈ mL S → F' b = F b) ∧ Keep (fun b => (F b).1 = j) S S' ∧ ∀ b, b ∈ mL S → (F b).2 < 40 → (∀ i, mI S' i b = mI S i b) ∧ (∀ i, mR S' i b = mR S i b) := by
  obtain ⟨f1, f2, f3, f4, hM, h1, h2, h3, h4, hW, hF, hj, hK⟩ := h
  obtain ⟨F', c1, c2, c3, c4⟩ := hW.app hk6 ha hF
  have nP : ∀ {b r : Nat}, F b = (j, r) → r < 40 → ¬ (F b = (j, 40 + 2 * k) ∨ F b = (j, 41 + 2 * k)) := fun hb hr z => z.elim (pr_ne hb (by omega)) (pr_ne hb (by omega))
  have kw := c4.2.1 w hM.1.1 (nP f1 (by decide))
  have kp := c4.2.1 pk h3.1 (nP f4 (by decide))
  refine ⟨F', _, ⟨(c3 w hM.1.1).trans f1, (c3 pl hM.2.2.1.1).trans f2, (c3 me hM.2.2.2.2.2.1.1).trans f3, (c3 pk h3.1).trans f4, hM.keep c4 (nP f1 (by decide)) (nP f2 (by decide)) (nP f3 (by decide)), fun i hi => (kw.2.1 _).trans (h1 i hi), (kw.2.1 _).trans h2, c4.isO h3, (kp.2.1 _).trans h4, c1, c2, hj, hK.keep c4 (nP f4 (by decide)) c3⟩, c3, c4.mono (fun b _ z => z.elim (fun e => by rw [e]) (fun e => by rw [e])), fun b hb h40 => ?_⟩
  have kb := c4.2.1 b hb (fun z => z.elim (fun e => by rw [e] at h40; exact absurd h40 (by show ¬ 40 + 2 * k < 40; omega)) (fun e => by rw [e] at h40; exact absurd h40 (by show ¬ 41 + 2 * k < 40; omega)))
  exact ⟨kb.1, kb.2.1⟩
theorem PW.met {x : Nat} (h : PW S F j w pk pl me a d V cap M) (hm : mtP S S' w pl me M x) : PW S' F j w pk pl me a d V cap (madd M x) ∧ Keep (fun b => (F b).1 = j) S S' := by
  obtain ⟨f1, f2, f3, f4, hM, h1, h2, h3, h4, hW, hF, hj, hK⟩ := h
  obtain ⟨m1, m2, m3, m4⟩ := hm
  have nP : ∀ {b r : Nat}, F b = (j, r) → 3 < r → ¬ (b = w ∨ b = pl ∨ b = me) := fun hb hr z => by
    rcases z with z | z | z
    · exact f_ne hb f1 (by omega) z
    · exact f_ne hb f2 (by omega) z
    · exact f_ne hb f3 (by omega) z
  have kp := m2.2.1 pk h3.1 (nP f4 (by decide))
  refine ⟨⟨f1, f2, f3, f4, m1, fun k hk => (m4 _).trans (h1 k hk), (m4 _).trans h2, m2.isO h3, (kp.2.1 _).trans h4, hW.keep m2 (fun b k hk z => z.elim (fun e => nP e (by omega)) (fun e => nP e (by omega))) (fun _ _ => rfl), fun b hb => (m2.1 b (hF b hb)).1, hj, hK.keep m2 (nP f4 (by decide)) (fun _ _ => rfl)⟩, m2.mono (fun b _ z => ?_)⟩
  rcases z with z | z | z
  · rw [z, f1]
  · rw [z, f2]
  · rw [z, f3]
/-- a field of the writer itself is written -/
theorem PW.fi {i9 : Nat} {v : Int32} (h : PW S F j w pk pl me a d V cap M) (hi : i9 ≠ 1008) : PW (sI S i9 w v) F j w pk pl me a d V cap M ∧ Keep (fun b => (F b).1 = j) S (sI S i9 w v) := by
  obtain ⟨f1, f2, f3, f4, hM, h1, h2, h3, h4, hW, hF, hj, hK⟩ := h
  have hk : Keep (fun b => b = w) S (sI S i9 w v) := Keep.sI (P := fun b => b = w) Keep.rf rfl
  have nP : ∀ {b r : Nat}, F b = (j, r) → 1 ≠ r → ¬ b = w := fun hb hr z => f_ne hb f1 (Ne.symm hr) z
  obtain ⟨m1, m2, m3, m4, m5, m6, m7, m8, m9, nd, lt, p1, p2⟩ := hM
  refine ⟨⟨f1, f2, f3, f4, ⟨isO_sI m1, m2, isO_sI m3, m4, m5, isO_sI m6, m7, m8, ?_, nd, lt, p1, p2⟩, h1, h2, isO_sI h3, h4, hW.keep hk (fun b k _ z => z.elim (fun e => nP e (by omega)) (fun e => nP e (by omega))) (fun _ _ => rfl), hF, hj, hK.keep hk (nP f4 (by decide)) (fun _ _ => rfl)⟩, hk.mono (fun b _ z => by rw [z, f1])⟩
  rw [mI_sI, if_neg (fun z => hi z.1.symm)]
  exact m9
theorem PW.fr {i9 : Nat} {v : Option Nat} (h : PW S F j w pk pl me a d V cap M) (hi : 1008 < i9) : PW (sR S i9 w v) F j w pk pl me a d V cap M ∧ Keep (fun b => (F b).1 = j) S (sR S i9 w v) := by
  obtain ⟨f1, f2, f3, f4, hM, h1, h2, h3, h4, hW, hF, hj, hK⟩ := h
  have hk : Keep (fun b => b = w) S (sR S i9 w v) := Keep.sR (P := fun b => b = w) Keep.rf rfl
  have nP : ∀ {b r : Nat}, F b = (j, r) → 1 ≠ r → ¬ b = w := fun hb hr z => f_ne hb f1 (Ne.symm hr) z
  have hr : ∀ i b, i ≤ 1008 → mR (sR S i9 w v) i b = mR S i b := fun i b hi9 => by rw [mR_sR, if_neg (fun z => by omega)]
  obtain ⟨m1, m2, m3, m4, m5, m6, m7, m8, m9, nd, lt, p1, p2⟩ := hM
  exact ⟨⟨f1, f2, f3, f4, ⟨isO_sR m1, (hr _ _ (by decide)).trans m2, isO_sR m3, m4, (hr _ _ (by decide)).trans m5, isO_sR m6, m7, m8, m9, nd, lt, p1, p2⟩, fun k hk9 => (hr _ _ (by omega)).trans (h1 k hk9), (hr _ _ (by decide)).trans h2, isO_sR h3, (hr _ _ (by decide)).trans h4, hW.keep hk (fun b k _ z => z.elim (fun e => nP e (by omega)) (fun e => nP e (by omega))) (fun _ _ => rfl), hF, hj, hK.keep hk (nP f4 (by decide)) (fun _ _ => rfl)⟩, hk.mono (fun b _ z => by rw [z, f1])⟩
end PWS
theorem updI_updI (V : Nat → List Int32) (k : Nat) (v v' : List Int32) : updI (updI V k v) k v' = updI V k v' := by
  funext i
  unfold updI
  by_cases q : i = k
  · rw [if_pos q, if_pos q]
  · rw [if_neg q, if_neg q, if_neg q]
theorem updI_len {V : Nat → List Int32} {k : Nat} {v v' : List Int32} (h : v.length ≤ v'.length) (i : Nat) : (updI V k v i).length ≤ (updI V k v' i).length := by
  unfold updI
  by_cases q : i = k
  · rw [if_pos q, if_pos q]; exact h
  · rw [if_neg q, if_neg q]; exact Nat.le_refl _
/-! ===== PatchWriter.writeParents ===== -/
def agI (G : Gr) (q : Nat) : Nat := G.ag (G.ev q).sl
def wpM (G : Gr) (M : List Nat) (pr : List Nat) : Nat → List Nat
  | 0 => M
  | k + 1 => madd (wpM G M pr k) (agI G (pr.getD k 0))
def wpV (G : Gr) (M : List Nat) (pr : List Nat) : Nat → List Int32
  | 0 => []
  | k + 1 => wpV G M pr k ++ (vbs 4 (nI ((wpM G M pr k).idxOf (agI G (pr.getD k 0)))) ++ vbs 4 (nI (G.ev (pr.getD k 0)).nu))
def onP (G : Gr) (f : Nat) (sb : Option Nat) : Prop := (G.ev f).pr.length = 1 ∧ sb = some ((G.ev f).pr.getD 0 0)
def wprM (G : Gr) (M : List Nat) (f : Nat) (sb : Option Nat) : List Nat := if (G.ev f).pr.length = 1 ∧ sb = some ((G.ev f).pr.getD 0 0) then M else (wpM G M (G.ev f).pr (G.ev f).pr.length)
def wprV (G : Gr) (M : List Nat) (f : Nat) (sb : Option Nat) : List Int32 := if (G.ev f).pr.length = 1 ∧ sb = some ((G.ev f).pr.getD 0 0) then vbs 4 (nI 0) else (vbs 4 (nI (1 + (G.ev f).pr.length)) ++ wpV G M (G.ev f).pr (G.ev f).pr.length)
theorem wpV_mono {G : Gr} {M pr : List Nat} {n : Nat} : ∀ {m : Nat}, n ≤ m → (wpV G M pr n).length ≤ (wpV G M pr m).length
  | 0, h => by rw [show n = 0 by omega]; exact Nat.le_refl _
  | m + 1, h => by
    rcases Nat.lt_or_ge m n with q | q
    · rw [show n = m + 1 by omega]; exact Nat.le_refl _
    · refine Nat.le_trans (wpV_mono q) ?_
      rw [wpV, List.length_append]
      exact Nat.le_add_right _ _
/-- the writer and a graph whose events it writes -/
def PWG (S : MM) (F : Nat → Nat × Nat) (j w pk pl me : Nat) (a d : Nat → Nat) (V : Nat → List Int32) (cap : Nat → Nat) (M : List Nat) (i : Nat) (A : Nat → Nat) (X : GX) (G : Gr) (T : Tr) (H : List Nat) (W : Nat → Nat) : Prop := PW S F j w pk pl me a d V cap M ∧ GI S F i A X G T H W ∧ i ≠ 0 ∧ i ≠ j
theorem PWG.gi {S S' : MM} {F F' : Nat → Nat × Nat} {j w pk pl me : Nat} {a d : Nat → Nat} {V : Nat → List Int32} {cap : Nat → Nat} {M : List Nat} {i : Nat} {A : Nat → Nat} {X : GX} {G : Gr} {T : Tr} {H : List Nat} {W : Nat → Nat} (h : PWG S F j w pk pl me a d V cap M i A X G T H W) (hk : Keep (fun b => (F b).1 = j) S S') (hf : ∀ b, b ∈ mL S → F' b = F b) : GI S' F' i A X G T H W := h.2.1.keep hk (fun b hb z => h.2.2.2 (hb.symm.trans z)) h.1.2.2.2.2.2.2.2.2.2.2.1 h.2.2.1 hf
def wpR (S : MM) (F : Nat → Nat × Nat) (j w pk pl me : Nat) (a d : Nat → Nat) (V : Nat → List Int32) (cap : Nat → Nat) (M : List Nat) (i : Nat) (A : Nat → Nat) (X : GX) (G : Gr) (T : Tr) (H : List Nat) (W : Nat → Nat) (f : Nat) (sb : Option Nat) : Prop := PWG S F j w pk pl me a d V cap M i A X G T H W ∧ f < G.n ∧ mR S 1009 w = some (X.ad f) ∧ mR S 1013 w = sb.map X.ad ∧ ∀ q, sb = some q → q < G.n
/-- what writing does to the writer: its columns, its agents; its other fields stay -/
def wpQ (S S' : MM) (F : Nat → Nat × Nat) (j w pk pl me : Nat) (a : Nat → Nat) (V' : Nat → List Int32) (cap : Nat → Nat) (M' : List Nat) : Prop := ∃ F' d', PW S' F' j w pk pl me a d' V' cap M' ∧ (∀ b, b ∈ mL S → F' b = F b) ∧ Keep (fun b => (F b).1 = j) S S' ∧ (∀ q, q ≠ 1008 → mI S' q w = mI S q w) ∧ ∀ q, mR S' q w = mR S q w
def I_wp (w : Nat) (F : Nat → Nat × Nat) (j pk pl me : Nat) (a : Nat → Nat) (V : Nat → List Int32) (cap : Nat → Nat) (M : List Nat) (X : GX) (G : Gr) (f : Nat) (sb : Option Nat) (S : MM) (t : Nat) : KT := fun lo st S1 cs sl => ∃ k, ¬ onP G f sb ∧ k + t = (G.ev f).pr.length ∧ lo = [(2, .inl (nI k)), (0, .inr (.inr (some w))), (1, .inr (.inr (some (X.pw f))))] ∧ st = [] ∧ wpQ S S1 F j w pk pl me a (updI V 2 (V 2 ++ (vbs 4 (nI (1 + (G.ev f).pr.length)) ++ wpV G M (G.ev f).pr k))) cap (wpM G M (G.ev f).pr k) ∧ cs + wcC V cap = wcC (updI V 2 (V 2 ++ (vbs 4 (nI (1 + (G.ev f).pr.length)) ++ wpV G M (G.ev f).pr k))) cap ∧ sl + wcZ V cap = wcZ (updI V 2 (V 2 ++ (vbs 4 (nI (1 + (G.ev f).pr.length)) ++ wpV G M (G.ev f).pr k))) cap
theorem len_n {M : List Nat} {n : Nat} (h : M.Nodup) (hb : ∀ x ∈ M, x < n) : M.length ≤ n := by
  have h1 : M.length = ((List.range n).filter (fun x => decide (x ∈ M))).length := nodup_len h (List.Nodup.sublist List.filter_sublist List.nodup_range) (fun x => by
    rw [List.mem_filter, List.mem_range, decide_eq_true_iff]
    exact ⟨fun q => ⟨hb x q, q⟩, fun q => q.2⟩)
  have h2 := List.length_filter_le (fun x => decide (x ∈ M)) (List.range n)
  rw [List.length_range] at h2
  omega
theorem Gr.ok.prl {G : Gr} (h : G.ok) {k : Nat} (hk : k < G.n) : (G.ev k).pr.length ≤ 8192 := by
  have := len_n (M := (G.ev k).pr) (n := k) ((h.pr4 k hk).imp (fun {a b} q e => by subst e; omega)) (fun x hx => (h.pr1 k hk x hx).1)
  have := h.hn
  omega
theorem wprV_no {G : Gr} {M : List Nat} {f : Nat} {sb : Option Nat} (h : ¬ onP G f sb) : wprV G M f sb = vbs 4 (nI (1 + (G.ev f).pr.length)) ++ wpV G M (G.ev f).pr (G.ev f).pr.length := if_neg h
theorem wprM_no {G : Gr} {M : List Nat} {f : Nat} {sb : Option Nat} (h : ¬ onP G f sb) : wprM G M f sb = wpM G M (G.ev f).pr (G.ev f).pr.length := if_neg h
section WPS
variable {S : MM} {F : Nat → Nat × Nat} {j w pk pl me : Nat} {a d : Nat → Nat} {V : Nat → List Int32} {cap : Nat → Nat} {M : List Nat} {i : Nat} {A : Nat → Nat} {X : GX} {G : Gr} {T : Tr} {H : List Nat} {W : Nat → Nat} {f : Nat} {sb : Option Nat}
theorem wp_le (h : ¬ onP G f sb) {k : Nat} (hk : k ≤ (G.ev f).pr.length) : wcC (updI V 2 (V 2 ++ (vbs 4 (nI (1 + (G.ev f).pr.length)) ++ wpV G M (G.ev f).pr k))) cap ≤ wcC (updI V 2 (V 2 ++ wprV G M f sb)) cap ∧ wcZ (updI V 2 (V 2 ++ (vbs 4 (nI (1 + (G.ev f).pr.length)) ++ wpV G M (G.ev f).pr k))) cap ≤ wcZ (updI V 2 (V 2 ++ wprV G M f sb)) cap := by
  rw [wprV_no h]
  refine wcC_mono (updI_len ?_)
  have := wpV_mono (G := G) (M := M) (pr := (G.ev f).pr) hk
  rw [List.length_append, List.length_append, List.length_append, List.length_append]
  omega
theorem wp_start (hp : wpR S F j w pk pl me a d V cap M i A X G T H W f sb) (hn : ¬ onP G f sb) : ∃ (d_7 : Nat) (B_8 : List Nat), (By S (a 2) d_7 B_8) ∧ 0 + (addNC (vbs 4 ((1 : Int32) + nI (G.ev f).pr.length)).length (mN S d_7) B_8.length) ≤ wcC (updI V 2 (V 2 ++ wprV G M f sb)) cap - wcC V cap ∧ 0 + (addNS (vbs 4 ((1 : Int32) + nI (G.ev f).pr.length)).length (mN S d_7) B_8.length) ≤ wcZ (updI V 2 (V 2 ++ wprV G M f sb)) cap - wcZ V cap ∧ (∀ (S_9 : MM), (∃ d', App S S_9 (a 2) d_7 d' B_8 (vbs 4 ((1 : Int32) + nI (G.ev f).pr.length))) → (∃ k1, I_wp w F j pk pl me a V cap M X G f sb S k1 [(2, .inl (0 : Int32)), (0, .inr (.inr (some w))), (1, .inr (.inr (some (X.pw f))))] [] S_9 (0 + (addNC (vbs 4 ((1 : Int32) + nI (G.ev f).pr.length)).length (mN S d_7) B_8.length)) (0 + (addNS (vbs 4 ((1 : Int32) + nI (G.ev f).pr.length)).length (mN S d_7) B_8.length)))) := by
  obtain ⟨hPG, hf, h9, h13, hsb⟩ := hp
  have hPW := hPG.1
  obtain ⟨f1, f2, f3, f4, hM, h1, h2, h3, h4, hW, hF, hj⟩ := id hPW
  have e1 : (1 : Int32) + nI (G.ev f).pr.length = nI (1 + (G.ev f).pr.length) := nI_add 1 _
  rw [e1]
  obtain ⟨c1, c2⟩ := hW.cost (k := 2) (by decide) (vbs 4 (nI (1 + (G.ev f).pr.length)))
  have l0 := wp_le (V := V) (cap := cap) (M := M) hn (Nat.zero_le _)
  rw [show wpV G M (G.ev f).pr 0 = [] from rfl, List.append_nil] at l0
  refine ⟨d 2, _, (hW 2 (by decide)).1, by omega, by omega, fun S9 hS9 => ?_⟩
  obtain ⟨d', ha⟩ := hS9
  obtain ⟨F', d2, p1, p2, p3, p4⟩ := hPW.app (k := 2) (by decide) ha
  have pw := p4 w hM.1.1 (by rw [f1]; exact (by decide : 1 < 40))
  refine ⟨(G.ev f).pr.length, 0, hn, Nat.zero_add _, rfl, rfl, ⟨F', d2, ?_, p2, p3, fun q _ => pw.1 q, pw.2⟩, ?_, ?_⟩
  · rw [show wpV G M (G.ev f).pr 0 = [] from rfl, List.append_nil]; exact p1
  · rw [show wpV G M (G.ev f).pr 0 = [] from rfl, List.append_nil]; omega
  · rw [show wpV G M (G.ev f).pr 0 = [] from rfl, List.append_nil]; omega
end WPS
def T_wwp : TR := fun Rc Rs av S cs sl K _Kx => match av with
  | [.inr (.inr w_o)] => pa w_o fun w => (∃ (F : Nat → Nat × Nat) (j pk pl me : Nat) (a d : Nat → Nat) (V : Nat → List Int32) (cap : Nat → Nat) (M : List Nat) (i : Nat) (A : Nat → Nat) (X : GX) (G : Gr) (T : Tr) (H : List Nat) (W : Nat → Nat) (f : Nat) (sb : Option Nat), (wpR S F j w pk pl me a d V cap M i A X G T H W f sb) ∧ cs + (wcC (updI V 2 (V 2 ++ wprV G M f sb)) cap - wcC V cap) ≤ Rc ∧ sl + (wcZ (updI V 2 (V 2 ++ wprV G M f sb)) cap - wcZ V cap) ≤ Rs ∧ (∀ (S' : MM), (wpQ S S' F j w pk pl me a (updI V 2 (V 2 ++ wprV G M f sb)) cap (wprM G M f sb)) → K none S' (cs + (wcC (updI V 2 (V 2 ++ wprV G M f sb)) cap - wcC V cap)) (sl + (wcZ (updI V 2 (V 2 ++ wprV G M f sb)) cap - wcZ V cap))))
  | _ => False
def sp_wwp (w : Nat) (F : Nat → Nat × Nat) (j pk pl me : Nat) (a d : Nat → Nat) (V : Nat → List Int32) (cap : Nat → Nat) (M : List Nat) (i : Nat) (A : Nat → Nat) (X : GX) (G : Gr) (T : Tr) (H : List Nat) (W : Nat → Nat) (f : Nat) (sb : Option Nat) : Sp := (fun av S => av = [.inr (.inr (some w))] ∧ (wpR S F j w pk pl me a d V cap M i A X G T H W f sb), fun _ S => wcC (updI V 2 (V 2 ++ wprV G M f sb)) cap - wcC V cap, fun _ S => wcZ (updI V 2 (V 2 ++ wprV G M f sb)) cap - wcZ V cap, fun _ S rv S' => rv = none ∧ (wpQ S S' F j w pk pl me a (updI V 2 (V 2 ++ wprV G M f sb)) cap (wprM G M f sb)), fun _ _ _ _ => False)
def tX9_writeParents : CD := [(0, .aload_n 0), (1, .getfield 41), (4, .getfield 149), (7, .astore_n 1), (8, .aload_n 1), (9, .arraylength), (10, .iconst 1), (11, .if_icmp .ne 22), (14, .aload_n 1), (15, .iconst 0), (16, .aaload), (17, .aload_n 0), (18, .getfield 54), (21, .if_acmp .ne 12), (24, .aload_n 0), (25, .getfield 21), (28, .iconst 0), (29, .invokevirtual 101), (32, .return_), (33, .aload_n 0), (34, .getfield 21), (37, .iconst 1), (38, .aload_n 1), (39, .arraylength), (40, .iadd), (41, .invokevirtual 101), (44, .iconst 0), (45, .istore_n 2), (46, .iload_n 2), (47, .aload_n 1), (48, .arraylength), (49, .if_icmp .ge 42), (52, .aload_n 0), (53, .getfield 21), (56, .aload_n 0), (57, .aload_n 1), (58, .iload_n 2), (59, .aaload), (60, .getfield 152), (63, .getfield 156), (66, .invokevirtual 161), (69, .invokevirtual 101), (72, .aload_n 0), (73, .getfield 21), (76, .aload_n 1), (77, .iload_n 2), (78, .aaload), (79, .getfield 165), (82, .invokevirtual 101), (85, .iinc 2 1), (88, .goto (-42)), (91, .return_)]
set_option maxRecDepth 100000 in
theorem kX9_writeParents : chk cX9_writeParents tX9_writeParents = true := by decide +kernel
theorem vX9_writeParents_101 : ∀ w ∈ ([.methodLink RX9 101 yX1_addVarint, .instanceMethod yX1_addVarint, .selects yX1_addVarint.cls yX1_addVarint yX1_addVarint, .initialized yX1_addVarint.cls, .code yX1_addVarint cX1_addVarint 4 none] : List Cond), w ∈ lw_good := List.forall_mem_cons.mpr ⟨mgd 1396 (by decide +kernel) (by decide +kernel), List.forall_mem_cons.mpr ⟨mgd 1341 (by decide +kernel) (by decide +kernel), List.forall_mem_cons.mpr ⟨mgd 1342 (by decide +kernel) (by decide +kernel), List.forall_mem_cons.mpr ⟨mgd 122 (by decide +kernel) (by decide +kernel), List.forall_mem_cons.mpr ⟨mgd 1343 (by decide +kernel) (by decide +kernel), fun _ h => absurd h List.not_mem_nil⟩⟩⟩⟩⟩
theorem vX9_writeParents_161 : ∀ w ∈ ([.methodLink RX9 161 yX9_placeOf, .instanceMethod yX9_placeOf, .selects yX9_placeOf.cls yX9_placeOf yX9_placeOf, .initialized yX9_placeOf.cls, .code yX9_placeOf cX9_placeOf 2 (some .int)] : List Cond), w ∈ lw_good := List.forall_mem_cons.mpr ⟨mgd 1392 (by decide +kernel) (by decide +kernel), List.forall_mem_cons.mpr ⟨mgd 1394 (by decide +kernel) (by decide +kernel), List.forall_mem_cons.mpr ⟨mgd 29 (by decide +kernel) (by decide +kernel), List.forall_mem_cons.mpr ⟨mgd 133 (by decide +kernel) (by decide +kernel), List.forall_mem_cons.mpr ⟨mgd 1395 (by decide +kernel) (by decide +kernel), fun _ h => absurd h List.not_mem_nil⟩⟩⟩⟩⟩
set_option maxRecDepth 100000 in
set_option maxHeartbeats 2000000 in
theorem c_wwp (l : Launch) : ∀ (w : Nat) (F : Nat → Nat × Nat) (j pk pl me : Nat) (a d : Nat → Nat) (V : Nat → List Int32) (cap : Nat → Nat) (M : List Nat) (i : Nat) (A : Nat → Nat) (X : GX) (G : Gr) (T : Tr) (H : List Nat) (W : Nat → Nat) (f : Nat) (sb : Option Nat), Ct l yX9_writeParents cX9_writeParents 3 none 4 98 (sp_wwp w F j pk pl me a d V cap M i A X G T H W f sb) := by
  intro w F j pk pl me a d V cap M i A X G T H W f sb
  refine Ct.of (fX9, nX9, aX9, iX9, lX9, [(101, 0, 2, 0, T_bvar), (161, 0, 2, 1, T_wpl)], qX9, gX9, []) false tX9_writeParents (fun _ S => look [(46, ([2,0,1], I_wp w F j pk pl me a V cap M X G f sb S))]) (by decide) (by decide) kX9_writeParents ⟨_, _, rfl⟩ fX9_ok nX9_ok aX9_ok iX9_ok lX9_ok (fun p e R s m args below meth c Q D cy z r A C hR1 hR2 => List.forall_mem_cons.mpr ⟨cOK_use (fun _ _ _ _ _ _ _ _ h => let ⟨sp, h1, h2, h3⟩ := u_bvar l _ _ _ _ _ _ _ _ h; ⟨sp, cOK_V C h1 vX9_writeParents_101 ⟨by decide, by decide, by decide +kernel⟩ ⟨by rw [hR1]; decide, by rw [hR2]; decide⟩ (k := 2) (T := TX1) (N := 3) rfl (by decide) h2, h3⟩), List.forall_mem_cons.mpr ⟨cOK_use (fun _ _ _ _ _ _ _ _ h => let ⟨sp, h1, h2, h3⟩ := u_wpl l _ _ _ _ _ _ _ _ h; ⟨sp, cOK_V C h1 vX9_writeParents_161 ⟨by decide, by decide, by decide +kernel⟩ ⟨by rw [hR1]; decide, by rw [hR2]; decide⟩ (k := 10) (T := TX9) (N := 15) rfl (by decide) h2, h3⟩), fun _ h => absurd h List.not_mem_nil⟩⟩) qX9_ok gX9_ok rfl ?_ ?_
  · rintro _ S ⟨rfl, hp⟩
    refine ⟨Nat.le_of_ble_eq_true rfl, 300, ?_⟩
    show (isO S 10 w ∧ (pa (mR S 1009 w) fun a_1 => isO S 5 a_1 ∧ (pa (mR S 503 a_1) fun a_2 => ∃ v_3 : Int32, (a_2 ∈ mL S ∧ ¬ mK S a_2 < 16 ∧ mK S a_2 < 29 ∧ v_3 = Int32.ofNat (mN S a_2) ∨ a_2 = mZ S ∧ v_3 = 0) ∧ ((¬ v_3 = (1 : Int32) → (isO S 10 w ∧ (pa (mR S 503 a_1) fun a_4 => ∃ v_5 : Int32, (a_4 ∈ mL S ∧ ¬ mK S a_4 < 16 ∧ mK S a_4 < 29 ∧ v_5 = Int32.ofNat (mN S a_4) ∨ a_4 = mZ S ∧ v_5 = 0) ∧ (0 = 0 ∧ ((pa (mR S 1002 w) fun a_6 => (∃ (d_7 : Nat) (B_8 : List Nat), (By S a_6 d_7 B_8) ∧ 0 + (addNC (vbs 4 ((1 : Int32) + v_5)).length (mN S d_7) B_8.length) ≤ wcC (updI V 2 (V 2 ++ wprV G M f sb)) cap - wcC V cap ∧ 0 + (addNS (vbs 4 ((1 : Int32) + v_5)).length (mN S d_7) B_8.length) ≤ wcZ (updI V 2 (V 2 ++ wprV G M f sb)) cap - wcZ V cap ∧ (∀ (S_9 : MM), (∃ d', App S S_9 a_6 d_7 d' B_8 (vbs 4 ((1 : Int32) + v_5))) → (∃ k1, I_wp w F j pk pl me a V cap M X G f sb S k1 [(2, .inl (0 : Int32)), (0, .inr (.inr (some w))), (1, .inr (.inr (mR S 503 a_1)))] [] S_9 (0 + (addNC (vbs 4 ((1 : Int32) + v_5)).length (mN S d_7) B_8.length)) (0 + (addNS (vbs 4 ((1 : Int32) + v_5)).length (mN S d_7) B_8.length))))))))))) ∧ (v_3 = (1 : Int32) → (pa (mR S 503 a_1) fun a_10 => a_10 ∈ mL S ∧ ¬ mK S a_10 < 21 ∧ mK S a_10 < 29 ∧ inR S a_10 (0 : Int32) ∧ (isO S 10 w ∧ ((¬ (eR S a_10 (0 : Int32).toNatClampNeg) = (mR S 1013 w) → (isO S 10 w ∧ (pa (mR S 503 a_1) fun a_11 => ∃ v_12 : Int32, (a_11 ∈ mL S ∧ ¬ mK S a_11 < 16 ∧ mK S a_11 < 29 ∧ v_12 = Int32.ofNat (mN S a_11) ∨ a_11 = mZ S ∧ v_12 = 0) ∧ (0 = 0 ∧ ((pa (mR S 1002 w) fun a_13 => (∃ (d_14 : Nat) (B_15 : List Nat), (By S a_13 d_14 B_15) ∧ 0 + (addNC (vbs 4 ((1 : Int32) + v_12)).length (mN S d_14) B_15.length) ≤ wcC (updI V 2 (V 2 ++ wprV G M f sb)) cap - wcC V cap ∧ 0 + (addNS (vbs 4 ((1 : Int32) + v_12)).length (mN S d_14) B_15.length) ≤ wcZ (updI V 2 (V 2 ++ wprV G M f sb)) cap - wcZ V cap ∧ (∀ (S_16 : MM), (∃ d', App S S_16 a_13 d_14 d' B_15 (vbs 4 ((1 : Int32) + v_12))) → (∃ k1, I_wp w F j pk pl me a V cap M X G f sb S k1 [(2, .inl (0 : Int32)), (0, .inr (.inr (some w))), (1, .inr (.inr (mR S 503 a_1)))] [] S_16 (0 + (addNC (vbs 4 ((1 : Int32) + v_12)).length (mN S d_14) B_15.length)) (0 + (addNS (vbs 4 ((1 : Int32) + v_12)).length (mN S d_14) B_15.length))))))))))) ∧ ((eR S a_10 (0 : Int32).toNatClampNeg) = (mR S 1013 w) → (isO S 10 w ∧ (0 = 0 ∧ ((pa (mR S 1002 w) fun a_17 => (∃ (d_18 : Nat) (B_19 : List Nat), (By S a_17 d_18 B_19) ∧ 0 + (addNC (vbs 4 (0 : Int32)).length (mN S d_18) B_19.length) ≤ wcC (updI V 2 (V 2 ++ wprV G M f sb)) cap - wcC V cap ∧ 0 + (addNS (vbs 4 (0 : Int32)).length (mN S d_18) B_19.length) ≤ wcZ (updI V 2 (V 2 ++ wprV G M f sb)) cap - wcZ V cap ∧ (∀ (S_20 : MM), (∃ d', App S S_20 a_17 d_18 d' B_19 (vbs 4 (0 : Int32))) → (([] : List MV) = [] ∧ mret none (sp_wwp w F j pk pl me a d V cap M i A X G T H W f sb) [.inr (.inr (some w))] S none S_20 (0 + (addNC (vbs 4 (0 : Int32)).length (mN S d_18) B_19.length)) (0 + (addNS (vbs 4 (0 : Int32)).length (mN S d_18) B_19.length))))))))))))))))))
    have hp0 := hp
    obtain ⟨hPG, hf, h9, h13, hsb⟩ := hp
    have hPW := hPG.1
    have hG := hPG.2.1
    obtain ⟨f1, f2, f3, f4, hM, h1, h2, h3, h4, hW, hF, hj⟩ := id hPW
    obtain ⟨v1, v2, v3, v4, v5, v6, v7, v8, -⟩ := hG.ev.2.1 f hf
    have hl := hG.ok.prl hf
    have k1 : ¬ mK S (X.pw f) < 16 := by rw [v6.2]; decide
    have k2 : mK S (X.pw f) < 29 := by rw [v6.2]; decide
    have k3 : ¬ mK S (X.pw f) < 21 := by rw [v6.2]; decide
    have ln : nI (G.ev f).pr.length = Int32.ofNat (mN S (X.pw f)) := by rw [v7]; rfl
    have e2 : mR S 1002 w = some (a 2) := h1 2 (by decide)
    refine ⟨hM.1, pa_i h9 ⟨v1, pa_i v5 ⟨nI (G.ev f).pr.length, Or.inl ⟨v6.1, k1, k2, ln⟩, ?_⟩⟩⟩
    rw [v5]
    refine if_ne (a := (G.ev f).pr.length) (b := 1) (by omega) (by decide) (fun z => ⟨hM.1, nI (G.ev f).pr.length, Or.inl ⟨v6.1, k1, k2, ln⟩, rfl, pa_i e2 (wp_start hp0 (fun q => z q.1))⟩) (fun z => ⟨v6.1, k3, k2, ?_, hM.1, fun u => ⟨hM.1, nI (G.ev f).pr.length, Or.inl ⟨v6.1, k1, k2, ln⟩, rfl, pa_i e2 (wp_start hp0 (fun q => u ?_))⟩, fun u => ⟨hM.1, rfl, pa_i e2 ?_⟩⟩)
    · show vp_in (nI 0) (mN S (X.pw f))
      rw [v7, z]; exact vp_in_nI (by decide) (by decide)
    · rw [show (0 : Int32).toNatClampNeg = 0 from by decide, v8 0 (by omega), h13, q.2]; rfl
    · rw [show (0 : Int32).toNatClampNeg = 0 from by decide, v8 0 (by omega), h13] at u
      have hon : onP G f sb := by
        refine ⟨z, ?_⟩
        cases sb with
        | none => cases u
        | some q =>
          have u := Option.some.inj u
          have hm : (G.ev f).pr.getD 0 0 ∈ (G.ev f).pr := by rw [getD_el (by omega)]; exact List.getElem_mem _
          have := hG.ok.pr1 f hf _ hm
          rw [hG.ev.2.2.2 _ _ (by omega) (hsb q rfl) u]
      have eV : wprV G M f sb = vbs 4 (nI 0) := if_pos hon
      have eM : wprM G M f sb = M := if_pos hon
      obtain ⟨c1, c2⟩ := hW.cost (k := 2) (by decide) (vbs 4 (nI 0))
      rw [← eV] at c1 c2
      refine ⟨d 2, _, (hW 2 (by decide)).1, ?_, ?_, fun S9 hS9 => ?_⟩
      · show 0 + addNC (vbs 4 (nI 0)).length _ _ ≤ _
        rw [← eV]; omega
      · show 0 + addNS (vbs 4 (nI 0)).length _ _ ≤ _
        rw [← eV]; omega
      · obtain ⟨d', ha⟩ := hS9
        have ha : App S S9 (a 2) (d 2) d' (bPuts [] (V 2)) (wprV G M f sb) := by rw [eV]; exact ha
        obtain ⟨F', d2, p1, p2, p3, p4⟩ := hPW.app (k := 2) (by decide) ha
        have pw := p4 w hM.1.1 (by rw [f1]; exact (by decide : 1 < 40))
        refine ⟨rfl, trivial, ⟨rfl, F', d2, by rw [eM]; exact p1, p2, p3, fun q _ => pw.1 q, pw.2⟩, ?_, ?_⟩
        · show 0 + addNC (vbs 4 (nI 0)).length _ _ ≤ wcC (updI V 2 (V 2 ++ wprV G M f sb)) cap - wcC V cap
          rw [← eV]; omega
        · show 0 + addNS (vbs 4 (nI 0)).length _ _ ≤ wcZ (updI V 2 (V 2 ++ wprV G M f sb)) cap - wcZ V cap
          rw [← eV]; omega
  · intro av S hpre pc I hI k lo st S1 cs sl h
    obtain ⟨rfl, hp⟩ := hpre
    have hm := look_in hI
    rw [List.mem_singleton] at hm
    cases hm
    obtain ⟨k9, hn, hk9, rfl, rfl, hQ, hcs, hsl⟩ := h
    refine ⟨300, ?_⟩
    show (∃ v_1 : Int32, ((X.pw f) ∈ mL S1 ∧ ¬ mK S1 (X.pw f) < 16 ∧ mK S1 (X.pw f) < 29 ∧ v_1 = Int32.ofNat (mN S1 (X.pw f)) ∨ (X.pw f) = mZ S1 ∧ v_1 = 0) ∧ ((v_1 ≤ (nI k9) → (([] : List MV) = [] ∧ mret none (sp_wwp w F j pk pl me a d V cap M i A X G T H W f sb) [.inr (.inr (some w))] S none S1 cs sl)) ∧ (¬ v_1 ≤ (nI k9) → (isO S1 10 w ∧ ((X.pw f) ∈ mL S1 ∧ ¬ mK S1 (X.pw f) < 21 ∧ mK S1 (X.pw f) < 29 ∧ inR S1 (X.pw f) (nI k9) ∧ (pa (eR S1 (X.pw f) (nI k9).toNatClampNeg) fun a_2 => isO S1 5 a_2 ∧ (pa (mR S1 500 a_2) fun a_3 => isO S1 1 a_3 ∧ (0 = 0 ∧ (∃ (x_4 : Nat), mI S1 100 a_3 = nI x_4 ∧ (∃ (pl_5 me_6 : Nat) (M_7 : List Nat), (MetR S1 w pl_5 me_6 M_7 ∧ x_4 < 256) ∧ cs ≤ wcC (updI V 2 (V 2 ++ wprV G M f sb)) cap - wcC V cap ∧ sl ≤ wcZ (updI V 2 (V 2 ++ wprV G M f sb)) cap - wcZ V cap ∧ (∀ (S_8 : MM), (mtP S1 S_8 w pl_5 me_6 M_7 x_4) → (0 = 0 ∧ ((pa (mR S1 1002 w) fun a_9 => (∃ (d_10 : Nat) (B_11 : List Nat), (By S_8 a_9 d_10 B_11) ∧ cs + (addNC (vbs 4 (nI (M_7.idxOf x_4))).length (mN S_8 d_10) B_11.length) ≤ wcC (updI V 2 (V 2 ++ wprV G M f sb)) cap - wcC V cap ∧ sl + (addNS (vbs 4 (nI (M_7.idxOf x_4))).length (mN S_8 d_10) B_11.length) ≤ wcZ (updI V 2 (V 2 ++ wprV G M f sb)) cap - wcZ V cap ∧ (∀ (S_12 : MM), (∃ d', App S_8 S_12 a_9 d_10 d' B_11 (vbs 4 (nI (M_7.idxOf x_4)))) → (isO S_12 10 w ∧ ((X.pw f) ∈ mL S_12 ∧ ¬ mK S_12 (X.pw f) < 21 ∧ mK S_12 (X.pw f) < 29 ∧ inR S_12 (X.pw f) (nI k9) ∧ (pa (eR S_12 (X.pw f) (nI k9).toNatClampNeg) fun a_13 => isO S_12 5 a_13 ∧ (0 = 0 ∧ ((pa (mR S_12 1002 w) fun a_14 => (∃ (d_15 : Nat) (B_16 : List Nat), (By S_12 a_14 d_15 B_16) ∧ cs + (addNC (vbs 4 (nI (M_7.idxOf x_4))).length (mN S_8 d_10) B_11.length) + (addNC (vbs 4 (mI S_12 501 a_13)).length (mN S_12 d_15) B_16.length) ≤ wcC (updI V 2 (V 2 ++ wprV G M f sb)) cap - wcC V cap ∧ sl + (addNS (vbs 4 (nI (M_7.idxOf x_4))).length (mN S_8 d_10) B_11.length) + (addNS (vbs 4 (mI S_12 501 a_13)).length (mN S_12 d_15) B_16.length) ≤ wcZ (updI V 2 (V 2 ++ wprV G M f sb)) cap - wcZ V cap ∧ (∀ (S_17 : MM), (∃ d', App S_12 S_17 a_14 d_15 d' B_16 (vbs 4 (mI S_12 501 a_13))) → (∃ k1, k1 < k ∧ I_wp w F j pk pl me a V cap M X G f sb S k1 [(2, .inl ((nI k9) + (1 : Int32))), (0, .inr (.inr (some w))), (1, .inr (.inr (some (X.pw f))))] [] S_17 (cs + (addNC (vbs 4 (nI (M_7.idxOf x_4))).length (mN S_8 d_10) B_11.length) + (addNC (vbs 4 (mI S_12 501 a_13)).length (mN S_12 d_15) B_16.length)) (sl + (addNS (vbs 4 (nI (M_7.idxOf x_4))).length (mN S_8 d_10) B_11.length) + (addNS (vbs 4 (mI S_12 501 a_13)).length (mN S_12 d_15) B_16.length)))))))))))))))))))))))))))
    obtain ⟨hPG, hf, h9, h13, hsb⟩ := hp
    obtain ⟨F1, d1, p1, p2, p3, p4, p5⟩ := hQ
    have hG : GI S1 F1 i A X G T H W := hPG.gi p3 p2
    obtain ⟨f1, f2, f3, f4, hM, h1, h2, h3, h4, hW, hF, hj⟩ := id p1
    obtain ⟨v1, v2, v3, v4, v5, v6, v7, v8, -⟩ := hG.ev.2.1 f hf
    have hl := hG.ok.prl hf
    have gn := hG.ok.hn
    have k1 : ¬ mK S1 (X.pw f) < 16 := by rw [v6.2]; decide
    have k2 : mK S1 (X.pw f) < 29 := by rw [v6.2]; decide
    have k3 : ¬ mK S1 (X.pw f) < 21 := by rw [v6.2]; decide
    have le9 := wp_le (V := V) (cap := cap) (M := M) hn (k := k9) (by omega)
    refine ⟨nI (G.ev f).pr.length, Or.inl ⟨v6.1, k1, k2, by rw [v7]; rfl⟩, if_le (by omega) (by omega) (fun z => ?_) (fun z => ?_)⟩
    · have e9 : k9 = (G.ev f).pr.length := by omega
      subst e9
      refine ⟨rfl, trivial, ⟨rfl, F1, d1, by rw [wprV_no hn, wprM_no hn]; exact p1, p2, p3, p4, p5⟩, ?_, ?_⟩
      · show cs ≤ wcC (updI V 2 (V 2 ++ wprV G M f sb)) cap - wcC V cap
        omega
      · show sl ≤ wcZ (updI V 2 (V 2 ++ wprV G M f sb)) cap - wcZ V cap
        omega
    · have hm : (G.ev f).pr.getD k9 0 ∈ (G.ev f).pr := by rw [getD_el z]; exact List.getElem_mem _
      have hq := hG.ok.pr1 f hf _ hm
      have hqn : (G.ev f).pr.getD k9 0 < G.n := by omega
      obtain ⟨u1, u2, u3, -⟩ := hG.ev.2.1 _ hqn
      have ag := hG.ev.2.2.1 _ (hG.ok.sl1 _ hqn)
      have agb := hG.ok.ag1 _ (hG.ok.sl1 _ hqn)
      have ec : (nI k9).toNatClampNeg = k9 := nI_clamp (by omega)
      have in1 : ∀ {S9 : MM}, mN S9 (X.pw f) = (G.ev f).pr.length → inR S9 (X.pw f) (nI k9) := fun h => by
        show vp_in (nI k9) (mN _ (X.pw f))
        rw [h]; exact vp_in_nI z (by omega)
      have le8 := wp_le (V := V) (cap := cap) (M := M) hn (k := k9 + 1) (by omega)
      rw [ec, v8 k9 z]
      refine ⟨hM.1, v6.1, k3, k2, in1 v7, u1, pa_i u2 ⟨ag.1, rfl, agI G ((G.ev f).pr.getD k9 0), ag.2.1, pl, me, _, ⟨hM, agb⟩, by omega, by omega, fun S8 hS8 => ?_⟩⟩
      obtain ⟨m1, m2⟩ := p1.met hS8
      obtain ⟨c1, c2⟩ := WC.cost m1.2.2.2.2.2.2.2.2.2.1 (k := 2) (by decide) (vbs 4 (nI ((wpM G M (G.ev f).pr k9).idxOf (agI G ((G.ev f).pr.getD k9 0)))))
      have bx := (m1.2.2.2.2.2.2.2.2.2.1 2 (by decide)).1
      have mf8 := hS8.2.2
      generalize hI1 : vbs 4 (nI ((wpM G M (G.ev f).pr k9).idxOf (agI G ((G.ev f).pr.getD k9 0)))) = I1 at *
      have e3 : ∀ I2 : List Int32, I2 = vbs 4 (nI (G.ev ((G.ev f).pr.getD k9 0)).nu) → ((V 2 ++ (vbs 4 (nI (1 + (G.ev f).pr.length)) ++ wpV G M (G.ev f).pr k9)) ++ I1) ++ I2 = V 2 ++ (vbs 4 (nI (1 + (G.ev f).pr.length)) ++ wpV G M (G.ev f).pr (k9 + 1)) := fun I2 h2 => by
        rw [wpV, hI1, h2]
        simp only [List.append_assoc]
      have lx : wcC (updI V 2 ((V 2 ++ (vbs 4 (nI (1 + (G.ev f).pr.length)) ++ wpV G M (G.ev f).pr k9)) ++ I1)) cap ≤ wcC (updI V 2 (V 2 ++ (vbs 4 (nI (1 + (G.ev f).pr.length)) ++ wpV G M (G.ev f).pr (k9 + 1)))) cap ∧ wcZ (updI V 2 ((V 2 ++ (vbs 4 (nI (1 + (G.ev f).pr.length)) ++ wpV G M (G.ev f).pr k9)) ++ I1)) cap ≤ wcZ (updI V 2 (V 2 ++ (vbs 4 (nI (1 + (G.ev f).pr.length)) ++ wpV G M (G.ev f).pr (k9 + 1)))) cap := by
        rw [← e3 _ rfl]
        refine wcC_mono (updI_len ?_)
        rw [List.length_append (bs := vbs 4 (nI (G.ev ((G.ev f).pr.getD k9 0)).nu))]
        exact Nat.le_add_right _ _
      rw [updI_s] at c1 c2 bx
      rw [updI_updI] at c1 c2
      refine ⟨rfl, pa_i (h1 2 (by decide)) ⟨d1 2, _, bx, by omega, by omega, fun S9 hS9 => ?_⟩⟩
      obtain ⟨d', ha⟩ := hS9
      obtain ⟨F3, d3, q1, q2, q3, q4⟩ := m1.app (k := 2) (by decide) (by rw [updI_s]; exact ha)
      rw [updI_s, updI_updI] at q1
      have k38 : Keep (fun b => (F b).1 = j) S S8 := p3.trN m2 (fun b hb z => by rw [← p2 b hb]; exact z)
      have k39 : Keep (fun b => (F b).1 = j) S S9 := k38.trN q3 (fun b hb z => by rw [← p2 b hb]; exact z)
      have f39 : ∀ b, b ∈ mL S → F3 b = F b := fun b hb => (q2 b (k38.1 b hb).1).trans (p2 b hb)
      have hG3 : GI S9 F3 i A X G T H W := hPG.gi k39 f39
      obtain ⟨w1, w2, w3, w4, w5, w6, w7, w8, -⟩ := hG3.ev.2.1 f hf
      obtain ⟨y1, y2, y3, -⟩ := hG3.ev.2.1 _ hqn
      obtain ⟨g1, g2, g3, g4, hM3, g5, g6, g7, g8, hW3, hF3, -⟩ := id q1
      have pw := q4 w m1.2.2.2.2.1.1.1 (by rw [f1]; exact (by decide : 1 < 40))
      refine ⟨hM3.1, w6.1, by rw [w6.2]; decide, by rw [w6.2]; decide, in1 w7, pa_i (w8 k9 z) ⟨y1, rfl, pa_i (g5 2 (by decide)) ?_⟩⟩
      rw [y3]
      obtain ⟨c3, c4⟩ := WC.cost hW3 (k := 2) (by decide) (vbs 4 (nI (G.ev ((G.ev f).pr.getD k9 0)).nu))
      have bx3 := (hW3 2 (by decide)).1
      rw [updI_s] at c3 c4 bx3
      rw [updI_updI, e3 _ rfl] at c3 c4
      refine ⟨d3 2, _, bx3, by omega, by omega, fun S10 hS10 => ?_⟩
      obtain ⟨d'', hb⟩ := hS10
      obtain ⟨F4, d4, r1, r2, r3, r4⟩ := q1.app (k := 2) (by decide) (by rw [updI_s]; exact hb)
      rw [updI_s, updI_updI, e3 _ rfl] at r1
      have pw4 := r4 w hM3.1.1 (by rw [g1]; exact (by decide : 1 < 40))
      refine ⟨k - 1, by omega, k9 + 1, hn, by omega, by rw [nI_1], rfl, ⟨F4, d4, r1, fun b hb9 => (r2 b (k39.1 b hb9).1).trans (f39 b hb9), k39.trN r3 (fun b hb9 z => by rw [← f39 b hb9]; exact z), fun q hq9 => ?_, fun q => ?_⟩, by omega, by omega⟩
      · rw [pw4.1, pw.1, mf8.1 q hq9, p4 q hq9]
      · rw [pw4.2, pw.2, mf8.2 q, p5 q]
theorem u_wwp (l : Launch) : Us l yX9_writeParents cX9_writeParents 3 none 4 98 10 T_wwp := by
  intro Rc Rs av S cs sl K Kx h
  unfold T_wwp at h
  split at h
  · rename_i w_o
    obtain ⟨w, rfl, h_1⟩ := pa_of h
    obtain ⟨F, j, pk, pl, me, a, d, V, cap, M, i, A, X, G, T, H, W, f, sb, hp, hc, hs, hk⟩ := h_1
    refine ⟨(sp_wwp w F j pk pl me a d V cap M i A X G T H W f sb), c_wwp l w F j pk pl me a d V cap M i A X G T H W f sb, fun _ _ h9 => ⟨_, _, h9.1, h9.2.1.1.2.2.2.2.1.1⟩, ⟨rfl, hp⟩, hc, hs, fun S' h8 => by
      obtain ⟨-, h8⟩ := h8
      exact hk _ h8, fun _ _ q => q.elim⟩
  · exact h.elim
