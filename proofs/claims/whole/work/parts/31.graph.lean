/-- an event: its agent's slot, its number, how many events of each slot are its ancestors, its parents by place, its character if it inserts, its index, its node if it deletes -/
abbrev Ev : Type := Nat × Nat × (Nat → Nat) × List Nat × Option Nat × Nat × Nat
def Ev.sl (e : Ev) : Nat := e.1
def Ev.nu (e : Ev) : Nat := e.2.1
def Ev.pa (e : Ev) : Nat → Nat := e.2.2.1
def Ev.pr (e : Ev) : List Nat := e.2.2.2.1
def Ev.ch (e : Ev) : Option Nat := e.2.2.2.2.1
def Ev.ix (e : Ev) : Nat := e.2.2.2.2.2.1
def Ev.tg (e : Ev) : Nat := e.2.2.2.2.2.2
/-- a graph: how many events, the events in the order in which they were taken, how many agents, their ids -/
abbrev Gr : Type := Nat × (Nat → Ev) × Nat × (Nat → Nat)
def Gr.n (G : Gr) : Nat := G.1
def Gr.ev (G : Gr) : Nat → Ev := G.2.1
def Gr.m (G : Gr) : Nat := G.2.2.1
def Gr.ag (G : Gr) : Nat → Nat := G.2.2.2
/-- how many of the first k events are of a slot -/
def Gr.cnt (G : Gr) : Nat → Nat → Nat
  | 0, _ => 0
  | k + 1, s => Gr.cnt G k s + if (G.ev k).sl = s then 1 else 0
def Gr.cn (G : Gr) (s : Nat) : Nat := cnt G G.n s
/-- what an event has as ancestors, and itself -/
def Gr.full (G : Gr) (k s : Nat) : Nat := if s = (G.ev k).sl then (G.ev k).nu + 1 else (G.ev k).pa s
def Gr.has (G : Gr) (W : Nat → Nat) (k : Nat) : Bool := decide ((G.ev k).nu < W (G.ev k).sl)
/-- e is an ancestor of f -/
def Gr.bef (G : Gr) (e f : Nat) : Bool := G.has (G.ev f).pa e
def Gr.key (G : Gr) (k : Nat) : Nat := G.ag (G.ev k).sl * 4294967296 + (G.ev k).nu
def Gr.ok (G : Gr) : Prop := (G.n ≤ 8192) ∧ (G.m ≤ 16) ∧ (∀ s, s < G.m → G.ag s < 256) ∧ (∀ s t, s < G.m → t < G.m → G.ag s = G.ag t → s = t) ∧ True ∧ (∀ k, k < G.n → (G.ev k).sl < G.m) ∧ (∀ k, k < G.n → (G.ev k).nu = G.cnt k (G.ev k).sl) ∧ (∀ k, k < G.n → (G.ev k).pa (G.ev k).sl = (G.ev k).nu) ∧ (∀ k s, k < G.n → (G.ev k).pa s ≤ G.cnt k s) ∧ (∀ k j, k < G.n → G.bef j k = true → j < G.n → ∀ t, G.full j t ≤ (G.ev k).pa t) ∧ (∀ k, k < G.n → ∀ p, p ∈ (G.ev k).pr → p < k ∧ G.bef p k = true) ∧ (∀ k, k < G.n → ∀ j, j < G.n → G.bef j k = true → ∃ p, p ∈ (G.ev k).pr ∧ (j = p ∨ G.bef j p = true)) ∧ (∀ k, k < G.n → ∀ p q, p ∈ (G.ev k).pr → q ∈ (G.ev k).pr → G.bef p q = false) ∧ (∀ k, k < G.n → (G.ev k).pr.Pairwise (fun p q => G.key p < G.key q))
theorem Gr.ok.hn {G : Gr} (h : G.ok) : G.n ≤ 8192 := h.1
theorem Gr.ok.hm {G : Gr} (h : G.ok) : G.m ≤ 16 := h.2.1
theorem Gr.ok.ag1 {G : Gr} (h : G.ok) : ∀ s, s < G.m → G.ag s < 256 := h.2.2.1
theorem Gr.ok.ag2 {G : Gr} (h : G.ok) : ∀ s t, s < G.m → t < G.m → G.ag s = G.ag t → s = t := h.2.2.2.1
/-- each agent has an event -/
def Gr.AG3 (G : Gr) : Prop := ∀ s, s < G.m → 0 < G.cn s
theorem Gr.ok.sl1 {G : Gr} (h : G.ok) : ∀ k, k < G.n → (G.ev k).sl < G.m := h.2.2.2.2.2.1
theorem Gr.ok.nu1 {G : Gr} (h : G.ok) : ∀ k, k < G.n → (G.ev k).nu = G.cnt k (G.ev k).sl := h.2.2.2.2.2.2.1
theorem Gr.ok.pa1 {G : Gr} (h : G.ok) : ∀ k, k < G.n → (G.ev k).pa (G.ev k).sl = (G.ev k).nu := h.2.2.2.2.2.2.2.1
theorem Gr.ok.pa2 {G : Gr} (h : G.ok) : ∀ k s, k < G.n → (G.ev k).pa s ≤ G.cnt k s := h.2.2.2.2.2.2.2.2.1
theorem Gr.ok.pa3 {G : Gr} (h : G.ok) : ∀ k j, k < G.n → G.bef j k = true → j < G.n → ∀ t, G.full j t ≤ (G.ev k).pa t := h.2.2.2.2.2.2.2.2.2.1
theorem Gr.ok.pr1 {G : Gr} (h : G.ok) : ∀ k, k < G.n → ∀ p, p ∈ (G.ev k).pr → p < k ∧ G.bef p k = true := h.2.2.2.2.2.2.2.2.2.2.1
theorem Gr.ok.pr2 {G : Gr} (h : G.ok) : ∀ k, k < G.n → ∀ j, j < G.n → G.bef j k = true → ∃ p, p ∈ (G.ev k).pr ∧ (j = p ∨ G.bef j p = true) := h.2.2.2.2.2.2.2.2.2.2.2.1
theorem Gr.ok.pr3 {G : Gr} (h : G.ok) : ∀ k, k < G.n → ∀ p q, p ∈ (G.ev k).pr → q ∈ (G.ev k).pr → G.bef p q = false := h.2.2.2.2.2.2.2.2.2.2.2.2.1
theorem Gr.ok.pr4 {G : Gr} (h : G.ok) : ∀ k, k < G.n → (G.ev k).pr.Pairwise (fun p q => G.key p < G.key q) := h.2.2.2.2.2.2.2.2.2.2.2.2.2
section GRAPH
variable {G : Gr}
theorem Gr.cnt_mono (s : Nat) {i j : Nat} (h : i ≤ j) : G.cnt i s ≤ G.cnt j s := by
  induction j with
  | zero => have : i = 0 := by omega
            subst this; exact Nat.le_refl _
  | succ j hj =>
    by_cases q : i = j + 1
    · rw [q]; exact Nat.le_refl _
    · exact Nat.le_trans (hj (by omega)) (by rw [cnt]; omega)
theorem Gr.cnt_lt {k j : Nat} (h : k < j) : G.cnt k (G.ev k).sl < G.cnt j (G.ev k).sl := by
  have := cnt_mono (G := G) (G.ev k).sl (show k + 1 ≤ j from h)
  rw [cnt, if_pos rfl] at this
  omega
theorem Gr.cnt_le (k s : Nat) : G.cnt k s ≤ k := by
  induction k with
  | zero => exact Nat.le_refl _
  | succ k hk => rw [cnt]; split <;> omega
/-- the events of a size -/
theorem Gr.has_cnt (h : G.ok) {k z : Nat} (hk : k < G.n) : G.has (G.cnt z) k = decide (k < z) := by
  rw [has, h.nu1 k hk]
  by_cases q : k < z
  · simp [q, cnt_lt q]
  · have := cnt_mono (G := G) (G.ev k).sl (show z ≤ k by omega)
    simp; omega
/-- each number of a slot is some event's -/
theorem Gr.at_ex (h : G.ok) {s j z : Nat} (hz : z ≤ G.n) (hj : j < G.cnt z s) : ∃ k, k < z ∧ (G.ev k).sl = s ∧ (G.ev k).nu = j := by
  induction z with
  | zero => simp [cnt] at hj
  | succ z iz =>
    rw [cnt] at hj
    by_cases q : j < G.cnt z s
    · obtain ⟨k, a, b, c⟩ := iz (by omega) q
      exact ⟨k, by omega, b, c⟩
    · split at hj
      · rename_i e
        exact ⟨z, by omega, e, by rw [h.nu1 z (by omega), e]; omega⟩
      · omega
/-- an event is named by its slot and number -/
theorem Gr.ev_uniq (h : G.ok) {i j : Nat} (hi : i < G.n) (hj : j < G.n) (h1 : (G.ev i).sl = (G.ev j).sl) (h2 : (G.ev i).nu = (G.ev j).nu) : i = j := by
  rw [h.nu1 i hi, h.nu1 j hj] at h2
  rcases Nat.lt_trichotomy i j with q | q | q
  · have := cnt_lt (G := G) q; rw [h1] at this; rw [h1] at h2; omega
  · exact q
  · have := cnt_lt (G := G) q; rw [h1] at h2; omega
theorem Gr.nu_lt (h : G.ok) {i j : Nat} (hi : i < G.n) (hj : j < G.n) (h1 : (G.ev i).sl = (G.ev j).sl) : (G.ev i).nu < (G.ev j).nu ↔ i < j := by
  rw [h.nu1 i hi, h.nu1 j hj]
  constructor
  · intro q
    refine Decidable.byContradiction (fun z => ?_)
    have := cnt_mono (G := G) (G.ev j).sl (show j ≤ i by omega)
    rw [h1] at q; omega
  · intro q; have := cnt_lt (G := G) q; rw [h1] at this; rw [h1]; exact this
/-- ancestors were taken before -/
theorem Gr.bef_lt (h : G.ok) {i j : Nat} (hi : i < G.n) (hj : j < G.n) (hb : G.bef i j = true) : i < j := by
  simp only [bef, has, decide_eq_true_eq] at hb
  have h2 := h.pa2 j (G.ev i).sl hj
  rw [h.nu1 i hi] at hb
  refine Decidable.byContradiction (fun z => ?_)
  have := cnt_mono (G := G) (G.ev i).sl (show j ≤ i by omega)
  omega
theorem Gr.bef_tr (h : G.ok) {i j k : Nat} (_ : i < G.n) (hj : j < G.n) (hk : k < G.n) (h1 : G.bef i j = true) (h2 : G.bef j k = true) : G.bef i k = true := by
  have h3 := h.pa3 k j hk h2 hj (G.ev i).sl
  simp only [bef, has, decide_eq_true_eq] at h1 h2 ⊢
  rw [full] at h3
  split at h3
  · rename_i e
    rw [e] at h1
    rw [h.pa1 j hj] at h1
    omega
  · omega
/-- events of one slot are each other's ancestors -/
theorem Gr.bef_same (h : G.ok) {i j : Nat} (hi : i < G.n) (hj : j < G.n) (h1 : (G.ev i).sl = (G.ev j).sl) : G.bef i j = decide (i < j) := by
  rw [bef, has, h1, h.pa1 j hj]
  exact decide_eq_decide.2 (nu_lt h hi hj h1)
/-! critical events -/
/-- the class's: all before are ancestors, and it is one of all behind -/
def Gr.crit (G : Gr) (k : Nat) : Prop := (∀ j, j < k → G.bef j k = true) ∧ (∀ j, j < G.n → k < j → G.bef k j = true)
/-- the reference's: of each slot the first one that is no ancestor has it as one -/
def Gr.critR (G : Gr) (k : Nat) : Prop := ∀ s, s < G.m → ∀ j, j < G.n → (G.ev j).sl = s → (G.ev j).nu = (G.ev k).pa s + (if s = (G.ev k).sl then 1 else 0) → G.bef k j = true
theorem Gr.crit_iff (h : G.ok) {k : Nat} (hk : k < G.n) : G.crit k ↔ G.critR k := by
  constructor
  · intro ⟨c1, c2⟩ s hs j hj e1 e2
    refine c2 j hj ?_
    rcases Nat.lt_trichotomy j k with q | q | q
    · have := c1 j q
      simp only [bef, has, decide_eq_true_eq] at this
      rw [e1] at this
      split at e2 <;> omega
    · subst q
      rw [e1, if_pos rfl] at e2
      have := h.pa1 j hk
      rw [e1] at this
      omega
    · exact q
  · intro c
    have key : ∀ j, j < G.n → j ≠ k → G.bef j k = false → G.bef k j = true := by
      intro j hj hne hb
      simp only [bef, has, decide_eq_false_iff_not, Nat.not_lt] at hb
      have hs := h.sl1 j hj
      by_cases e : (G.ev j).sl = (G.ev k).sl
      · rw [bef_same h hk hj e.symm]
        have : ¬ j < k := fun q => by
          have := bef_same h hj hk e
          simp only [bef, has] at this
          simp [q] at this
          omega
        simp; omega
      · have hlt : (G.ev k).pa (G.ev j).sl < G.cnt G.n (G.ev j).sl := by
          have := h.nu1 j hj
          have := cnt_lt (G := G) hj
          omega
        obtain ⟨i, i1, i2, i3⟩ := at_ex h (Nat.le_refl _) hlt
        have hi := c _ hs i i1 i2 (by rw [i3, if_neg e]; omega)
        by_cases q : i = j
        · exact q ▸ hi
        · have : i < j := by
            rw [← nu_lt h i1 hj i2, i3]
            have : (G.ev i).nu ≠ (G.ev j).nu := fun z => q (ev_uniq h i1 hj i2 z)
            omega
          have h2 := bef_same h i1 hj i2
          simp [this] at h2
          exact bef_tr h hk i1 hj hi h2
    constructor
    · intro j hj
      refine Decidable.byContradiction (fun z => ?_)
      have := bef_lt h hk (Nat.lt_trans hj hk) (key j (by omega) (by omega) (by simpa using z))
      omega
    · intro j hj hkj
      refine key j hj (by omega) ?_
      cases z : G.bef j k
      · rfl
      · have := bef_lt h hj hk z; omega
/-! tops -/
theorem Gr.bef_irr (h : G.ok) {k : Nat} (hk : k < G.n) : G.bef k k = false := by
  rw [bef_same h hk hk rfl]; simp
theorem Gr.key_inj (h : G.ok) {i j : Nat} (hi : i < G.n) (hj : j < G.n) (e : G.key i = G.key j) : i = j := by
  have n1 := h.nu1 i hi
  have n2 := h.nu1 j hj
  have c1 := cnt_le (G := G) i (G.ev i).sl
  have c2 := cnt_le (G := G) j (G.ev j).sl
  have := h.hn
  rw [key, key] at e
  have e1 : G.ag (G.ev i).sl = G.ag (G.ev j).sl := by omega
  exact ev_uniq h hi hj (h.ag2 _ _ (h.sl1 i hi) (h.sl1 j hj) e1) (by omega)
/-- a set of events that has their ancestors -/
def Gr.Ver (G : Gr) (W : Nat → Nat) : Prop := (∀ s, W s ≤ G.cn s) ∧ ∀ k, k < G.n → G.has W k = true → ∀ t, (G.ev k).pa t ≤ W t
def Gr.Top (G : Gr) (W : Nat → Nat) (k : Nat) : Prop := k < G.n ∧ G.has W k = true ∧ ∀ j, j < G.n → G.has W j = true → G.bef k j = false
/-- the last one of its slot in a set -/
def Gr.Lst (G : Gr) (W : Nat → Nat) (k : Nat) : Prop := k < G.n ∧ (G.ev k).nu + 1 = W (G.ev k).sl
theorem Gr.Lst.has {W : Nat → Nat} {k : Nat} (h : G.Lst W k) : G.has W k = true := by
  have := h.2
  simp only [Gr.has, decide_eq_true_eq]; omega
theorem Gr.lst_of (h : G.ok) {W : Nat → Nat} (hW : ∀ s, W s ≤ G.cn s) {k : Nat} (hk : k < G.n) (hh : G.has W k = true) : ∃ j, G.Lst W j ∧ (G.ev j).sl = (G.ev k).sl ∧ (j = k ∨ G.bef k j = true) := by
  simp only [Gr.has, decide_eq_true_eq] at hh
  have hw := hW (G.ev k).sl
  obtain ⟨j, j1, j2, j3⟩ := at_ex h (Nat.le_refl _) (show W (G.ev k).sl - 1 < G.cnt G.n (G.ev k).sl by rw [cn] at hw; omega)
  refine ⟨j, ⟨j1, by rw [j3, j2]; omega⟩, j2, ?_⟩
  by_cases q : j = k
  · exact Or.inl q
  · refine Or.inr ?_
    rw [bef_same h hk j1 j2.symm]
    have : (G.ev k).nu ≠ (G.ev j).nu := fun z => q (ev_uniq h hk j1 j2.symm z).symm
    have := nu_lt h hk j1 j2.symm
    simp; omega
theorem Gr.top_iff (h : G.ok) {W : Nat → Nat} (hW : ∀ s, W s ≤ G.cn s) {k : Nat} : G.Top W k ↔ G.Lst W k ∧ ∀ j, G.Lst W j → G.bef k j = false := by
  constructor
  · intro ⟨k1, k2, k3⟩
    refine ⟨?_, fun j hj => k3 j hj.1 hj.has⟩
    obtain ⟨j, j1, j2, j3⟩ := lst_of h hW k1 k2
    rcases j3 with j3 | j3
    · exact j3 ▸ j1
    · have := k3 j j1.1 j1.has; rw [this] at j3; cases j3
  · intro ⟨k1, k2⟩
    refine ⟨k1.1, k1.has, fun j hj hh => ?_⟩
    cases q : G.bef k j
    · rfl
    · obtain ⟨i, i1, i2, i3⟩ := lst_of h hW hj hh
      have h4 := k2 i i1
      rcases i3 with i3 | i3
      · rw [i3, q] at h4; cases h4
      · rw [bef_tr h k1.1 hj i1.1 q i3] at h4; cases h4
theorem Gr.top_pr (h : G.ok) {k p : Nat} (hk : k < G.n) : G.Top (G.ev k).pa p ↔ p ∈ (G.ev k).pr := by
  constructor
  · intro ⟨p1, p2, p3⟩
    obtain ⟨q, q1, q2⟩ := h.pr2 k hk p p1 p2
    rcases q2 with q2 | q2
    · exact q2 ▸ q1
    · have h5 := h.pr1 k hk q q1
      rw [p3 q (by omega) h5.2] at q2; cases q2
  · intro hp
    have h5 := h.pr1 k hk p hp
    refine ⟨by omega, h5.2, fun j hj hh => ?_⟩
    cases q : G.bef p j
    · rfl
    · obtain ⟨r, r1, r2⟩ := h.pr2 k hk j hj hh
      have h6 := h.pr1 k hk r r1
      have h7 := h.pr3 k hk p r hp r1
      rcases r2 with r2 | r2
      · rw [← r2, q] at h7; cases h7
      · rw [bef_tr h (by omega) hj (by omega) q r2] at h7; cases h7
/-- the greatest of what some events have as ancestors, with themselves -/
def Gr.jn (G : Gr) : List Nat → Nat → Nat
  | [], _ => 0
  | p :: P, t => max (G.full p t) (jn G P t)
theorem Gr.full_le_jn {P : List Nat} {p : Nat} (hp : p ∈ P) (t : Nat) : G.full p t ≤ G.jn P t := by
  induction P with
  | nil => cases hp
  | cons q P ih =>
    rw [jn]
    cases hp with
    | head => exact Nat.le_max_left _ _
    | tail _ h => exact Nat.le_trans (ih h) (Nat.le_max_right _ _)
theorem Gr.jn_ex {P : List Nat} {t v : Nat} (h : v < G.jn P t) : ∃ p, p ∈ P ∧ v < G.full p t := by
  induction P with
  | nil => simp [jn] at h
  | cons q P ih =>
    rw [jn] at h
    by_cases z : v < G.full q t
    · exact ⟨q, by simp, z⟩
    · obtain ⟨p, p1, p2⟩ := ih (by omega)
      exact ⟨p, by simp [p1], p2⟩
theorem Gr.jn_le {P : List Nat} {t v : Nat} (h : ∀ p, p ∈ P → G.full p t ≤ v) : G.jn P t ≤ v := by
  refine Decidable.byContradiction (fun z => ?_)
  obtain ⟨p, p1, p2⟩ := jn_ex (show v < G.jn P t by omega)
  have := h p p1; omega
theorem Gr.lt_full (h : G.ok) {j p : Nat} (hj : j < G.n) (hp : p < G.n) : (G.ev j).nu < G.full p (G.ev j).sl ↔ j = p ∨ G.bef j p = true := by
  rw [full]
  by_cases q : (G.ev j).sl = (G.ev p).sl
  · rw [if_pos q, bef_same h hj hp q]
    have h1 := nu_lt h hj hp q
    simp only [decide_eq_true_eq]
    constructor
    · intro z
      by_cases w : (G.ev j).nu = (G.ev p).nu
      · exact Or.inl (ev_uniq h hj hp q w)
      · exact Or.inr (h1.1 (by omega))
    · intro z
      rcases z with z | z
      · rw [z]; omega
      · have := h1.2 z; omega
  · rw [if_neg q]
    simp only [bef, has, decide_eq_true_eq]
    constructor
    · exact Or.inr
    · rintro (z | z)
      · exact absurd (by rw [z]) q
      · exact z
/-- an event comes in -/
def Gr.push (G : Gr) (e : Ev) (m : Nat) (ag : Nat → Nat) : Gr := (G.n + 1, fun k => if k = G.n then e else G.ev k, m, ag)
theorem Gr.push_old {e : Ev} {m : Nat} {ag : Nat → Nat} {k : Nat} (hk : k < G.n) : (G.push e m ag).ev k = G.ev k := by
  show (if k = G.n then e else G.ev k) = _
  rw [if_neg (by omega)]
theorem Gr.push_new {e : Ev} {m : Nat} {ag : Nat → Nat} : (G.push e m ag).ev G.n = e := by
  show (if G.n = G.n then e else G.ev G.n) = _
  rw [if_pos rfl]
theorem Gr.push_cnt {e : Ev} {m : Nat} {ag : Nat → Nat} {k s : Nat} (hk : k ≤ G.n) : (G.push e m ag).cnt k s = G.cnt k s := by
  induction k with
  | zero => rfl
  | succ k ih => rw [cnt, cnt, ih (by omega), push_old (by omega)]
theorem Gr.push_cn {e : Ev} {m : Nat} {ag : Nat → Nat} {s : Nat} : (G.push e m ag).cn s = G.cn s + if e.sl = s then 1 else 0 := by
  show (G.push e m ag).cnt (G.n + 1) s = _
  rw [cnt, push_cnt (Nat.le_refl _), push_new]; rfl
theorem Gr.push_full {e : Ev} {m : Nat} {ag : Nat → Nat} {k s : Nat} (hk : k < G.n) : (G.push e m ag).full k s = G.full k s := by
  rw [full, full, push_old hk]
theorem Gr.push_bef {e : Ev} {m : Nat} {ag : Nat → Nat} {j k : Nat} (hj : j < G.n) (hk : k < G.n) : (G.push e m ag).bef j k = G.bef j k := by
  rw [bef, bef, has, has, push_old hj, push_old hk]
theorem Gr.push_befn {e : Ev} {m : Nat} {ag : Nat → Nat} {j : Nat} (hj : j < G.n) : (G.push e m ag).bef j G.n = G.has e.pa j := by
  rw [bef, has, has, push_old hj, push_new]
theorem Gr.has_jn (h : G.ok) {P : List Nat} (hP : ∀ p, p ∈ P → p < G.n) {j : Nat} (hj : j < G.n) : G.has (G.jn P) j = true ↔ ∃ p, p ∈ P ∧ (j = p ∨ G.bef j p = true) := by
  simp only [has, decide_eq_true_eq]
  constructor
  · intro z
    obtain ⟨p, p1, p2⟩ := jn_ex z
    exact ⟨p, p1, (lt_full h hj (hP p p1)).1 p2⟩
  · rintro ⟨p, p1, p2⟩
    exact Nat.lt_of_lt_of_le ((lt_full h hj (hP p p1)).2 p2) (full_le_jn p1 _)
theorem Gr.full_cnt (h : G.ok) {p s : Nat} (hp : p < G.n) : G.full p s ≤ G.cnt (p + 1) s := by
  rw [full, cnt]
  by_cases q : s = (G.ev p).sl
  · rw [if_pos q, h.nu1 p hp, q, if_pos rfl]; exact Nat.le_refl _
  · rw [if_neg q]; exact Nat.le_trans (h.pa2 p s hp) (Nat.le_add_right _ _)
theorem Gr.jn_cnt (h : G.ok) {P : List Nat} (hP : ∀ p, p ∈ P → p < G.n) (s : Nat) : G.jn P s ≤ G.cn s :=
  jn_le (fun p hp => Nat.le_trans (full_cnt h (hP p hp)) (cnt_mono s (hP p hp)))
theorem Gr.full_mono (h : G.ok) {j p : Nat} (hj : j < G.n) (hp : p < G.n) (hb : j = p ∨ G.bef j p = true) (t : Nat) : G.full j t ≤ G.full p t := by
  rcases hb with hb | hb
  · rw [hb]; exact Nat.le_refl _
  · refine Nat.le_trans (h.pa3 p j hp hb hj t) ?_
    rw [full]
    split
    · rename_i q; rw [q, h.pa1 p hp]; omega
    · exact Nat.le_refl _
theorem Gr.pa_le_full (h : G.ok) {k : Nat} (hk : k < G.n) (t : Nat) : (G.ev k).pa t ≤ G.full k t := by
  rw [full]
  split
  · rename_i q; rw [q, h.pa1 k hk]; omega
  · exact Nat.le_refl _
theorem Gr.jn_ver (h : G.ok) {P : List Nat} (hP : ∀ p, p ∈ P → p < G.n) : G.Ver (G.jn P) := by
  refine ⟨jn_cnt h hP, fun k hk hh t => ?_⟩
  obtain ⟨p, p1, p2⟩ := (has_jn h hP hk).1 hh
  exact Nat.le_trans (pa_le_full h hk t) (Nat.le_trans (full_mono h hk (hP p p1) p2 t) (full_le_jn p1 t))
theorem Gr.push_ok (h : G.ok) {e : Ev} {m : Nat} {ag : Nat → Nat} (hn : G.n < 8192) (h1 : G.m ≤ m) (hm : m ≤ 16) (h2 : ∀ s, s < G.m → ag s = G.ag s) (h3 : ∀ s, s < m → ag s < 256) (h4 : ∀ s t, s < m → t < m → ag s = ag t → s = t) (h5 : ∀ s, s < m → s < G.m ∨ s = e.sl) (h6 : e.sl < m) (h7 : e.nu = G.cn e.sl) (h8 : ∀ p, p ∈ e.pr → p < G.n) (h9 : ∀ p q, p ∈ e.pr → q ∈ e.pr → G.bef p q = false) (h10 : e.pr.Pairwise (fun p q => G.key p < G.key q)) (h11 : ∀ t, e.pa t = G.jn e.pr t) (h12 : e.pa e.sl = e.nu) : (G.push e m ag).ok := by
  have hpa : e.pa = G.jn e.pr := funext h11
  have old : ∀ k, k < G.n + 1 → k < G.n ∨ k = G.n := fun k hk => by omega
  refine ⟨show G.n + 1 ≤ 8192 by omega, hm, h3, h4, trivial, fun k hk => ?_, fun k hk => ?_, fun k hk => ?_, fun k s hk => ?_, fun k j hk hb hj t => ?_, fun k hk p hp => ?_, fun k hk j hj hb => ?_, fun k hk p q hp hq => ?_, fun k hk => ?_⟩
  · rcases old k hk with q | q
    · rw [push_old q]; exact Nat.lt_of_lt_of_le (h.sl1 k q) h1
    · rw [q, push_new]; exact h6
  · rcases old k hk with q | q
    · rw [push_old q, push_cnt (by omega)]; exact h.nu1 k q
    · rw [q, push_new, push_cnt (Nat.le_refl _)]; exact h7
  · rcases old k hk with q | q
    · rw [push_old q]; exact h.pa1 k q
    · rw [q, push_new]; exact h12
  · rcases old k hk with q | q
    · rw [push_old q, push_cnt (by omega)]; exact h.pa2 k s q
    · rw [q, push_new, push_cnt (Nat.le_refl _), h11]; exact jn_cnt h h8 s
  · rcases old k hk with q | q
    · have hj' : j < G.n := by
        rcases old j hj with z | z
        · exact z
        · rw [z] at hb
          simp only [bef, has, push_new, push_old q, decide_eq_true_eq] at hb
          have c1 := h.pa2 k e.sl q
          have c2 := cnt_mono (G := G) e.sl (Nat.le_of_lt q)
          rw [cn] at h7; omega
      rw [push_bef hj' q] at hb
      rw [push_old q, push_full hj']
      exact h.pa3 k j q hb hj' t
    · subst q
      have hj' : j < G.n := by
        rcases old j hj with z | z
        · exact z
        · rw [z] at hb
          simp only [bef, has, push_new, decide_eq_true_eq] at hb
          rw [h12] at hb; omega
      rw [push_befn hj', hpa] at hb
      rw [push_new, push_full hj', h11]
      obtain ⟨p, p1, p2⟩ := (has_jn h h8 hj').1 hb
      exact Nat.le_trans (full_mono h hj' (h8 p p1) p2 t) (full_le_jn p1 t)
  · rcases old k hk with q | q
    · rw [push_old q] at hp
      have := h.pr1 k q p hp
      rw [push_bef (by omega) q]; exact this
    · subst q
      rw [push_new] at hp
      have h0 := h8 p hp
      rw [push_befn h0, hpa]
      exact ⟨h0, (has_jn h h8 h0).2 ⟨p, hp, Or.inl rfl⟩⟩
  · rcases old k hk with q | q
    · have hj' : j < G.n := by
        rcases old j hj with z | z
        · exact z
        · rw [z] at hb
          simp only [bef, has, push_new, push_old q, decide_eq_true_eq] at hb
          have c1 := h.pa2 k e.sl q
          have c2 := cnt_mono (G := G) e.sl (Nat.le_of_lt q)
          rw [cn] at h7; omega
      rw [push_bef hj' q] at hb
      obtain ⟨p, p1, p2⟩ := h.pr2 k q j hj' hb
      have h0 := h.pr1 k q p p1
      exact ⟨p, by rw [push_old q]; exact p1, by rw [push_bef hj' (by omega)]; exact p2⟩
    · subst q
      have hj' : j < G.n := by
        rcases old j hj with z | z
        · exact z
        · rw [z] at hb
          simp only [bef, has, push_new, decide_eq_true_eq] at hb
          rw [h12] at hb; omega
      rw [push_befn hj', hpa] at hb
      obtain ⟨p, p1, p2⟩ := (has_jn h h8 hj').1 hb
      exact ⟨p, by rw [push_new]; exact p1, by rw [push_bef hj' (h8 p p1)]; exact p2⟩
  · rcases old k hk with z | z
    · rw [push_old z] at hp hq
      have a := h.pr1 k z p hp
      have b := h.pr1 k z q hq
      rw [push_bef (by omega) (by omega)]; exact h.pr3 k z p q hp hq
    · subst z
      rw [push_new] at hp hq
      rw [push_bef (h8 p hp) (h8 q hq)]; exact h9 p q hp hq
  · have kk : ∀ p, p < G.n → (G.push e m ag).key p = G.key p := fun p hp => by
      rw [key, key, push_old hp]
      show ag _ * _ + _ = _
      rw [h2 _ (h.sl1 p hp)]
    rcases old k hk with z | z
    · rw [push_old z]
      have a := h.pr1 k z
      refine List.Pairwise.imp_of_mem (fun {p q} hp hq hh => ?_) (h.pr4 k z)
      rw [kk p (by have := a p hp; omega), kk q (by have := a q hq; omega)]; exact hh
    · subst z
      rw [push_new]
      refine List.Pairwise.imp_of_mem (fun {p q} hp hq hh => ?_) h10
      rw [kk p (h8 p hp), kk q (h8 q hq)]; exact hh
/-- heads: those that are nobody's ancestors -/
theorem Gr.head_push (h : G.ok) {e : Ev} {m : Nat} {ag : Nat → Nat} (h7 : e.nu = G.cn e.sl) (h8 : ∀ p, p ∈ e.pr → p < G.n) (h11 : ∀ t, e.pa t = G.jn e.pr t) (h12 : e.pa e.sl = e.nu) (k : Nat) :
    ((k < G.n + 1 ∧ ∀ j, j < G.n + 1 → (G.push e m ag).bef k j = false) ↔ k = G.n ∨ ((k < G.n ∧ ∀ j, j < G.n → G.bef k j = false) ∧ k ∉ e.pr)) := by
  have hpa : e.pa = G.jn e.pr := funext h11
  constructor
  · intro ⟨k1, k2⟩
    by_cases q : k = G.n
    · exact Or.inl q
    · have hk : k < G.n := by omega
      refine Or.inr ⟨⟨hk, fun j hj => by rw [← push_bef hk hj]; exact k2 j (by omega)⟩, fun hp => ?_⟩
      have := k2 G.n (by omega)
      rw [push_befn hk, hpa, (has_jn h h8 hk).2 ⟨k, hp, Or.inl rfl⟩] at this
      cases this
  · rintro (q | ⟨⟨k1, k2⟩, k3⟩)
    · subst q
      refine ⟨by omega, fun j hj => ?_⟩
      by_cases z : j = G.n
      · subst z
        simp only [bef, has, push_new, decide_eq_false_iff_not]
        rw [h12]; omega
      · have hj' : j < G.n := by omega
        simp only [bef, has, push_new, push_old hj', decide_eq_false_iff_not]
        have c1 := h.pa2 j e.sl hj'
        have c2 := cnt_mono (G := G) e.sl (Nat.le_of_lt hj')
        rw [cn] at h7; omega
    · refine ⟨by omega, fun j hj => ?_⟩
      by_cases z : j = G.n
      · subst z
        rw [push_befn k1, hpa]
        cases w : G.has (G.jn e.pr) k
        · rfl
        · obtain ⟨p, p1, p2⟩ := (has_jn h h8 k1).1 w
          rcases p2 with p2 | p2
          · exact absurd (p2 ▸ p1) k3
          · rw [k2 p (h8 p p1)] at p2; cases p2
      · rw [push_bef k1 (by omega)]; exact k2 j (by omega)
end GRAPH
/-- two rows in order that have the same members are one -/
theorem srt_uniq {f : Nat → Nat} {l r : List Nat} (h1 : l.Pairwise (fun p q => f p < f q)) (h2 : r.Pairwise (fun p q => f p < f q)) (h : ∀ x, x ∈ l ↔ x ∈ r) : l = r := by
  induction l generalizing r with
  | nil =>
    cases r with
    | nil => rfl
    | cons y r => exact absurd ((h y).2 (by simp)) (by simp)
  | cons x l ih =>
    cases r with
    | nil => exact absurd ((h x).1 (by simp)) (by simp)
    | cons y r =>
      rw [List.pairwise_cons] at h1 h2
      have e : x = y := by
        have a := (h x).1 (by simp)
        have b := (h y).2 (by simp)
        rw [List.mem_cons] at a b
        rcases a with a | a
        · exact a
        · rcases b with b | b
          · exact b.symm
          · have := h1.1 y b
            have := h2.1 x a
            omega
      subst e
      rw [ih h1.2 h2.2 (fun z => ?_)]
      have hz := h z
      rw [List.mem_cons, List.mem_cons] at hz
      constructor
      · intro w
        rcases hz.1 (Or.inr w) with q | q
        · have := h1.1 z w; rw [q] at this; omega
        · exact q
      · intro w
        rcases hz.2 (Or.inr w) with q | q
        · have := h2.1 z w; rw [q] at this; omega
        · exact q
