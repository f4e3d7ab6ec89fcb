/-! ===== The reference's own events: what add, erase and insert ask for, and what they give ===== -/
section OWN2
variable {G : Gr} {T T' : Tr} {p s ix c : Nat} {H : List Nat}
theorem eGr_key (h : G.ok) {k : Nat} (hk : k < G.n) (s a : Nat) : (eGr G s a).key k = G.key k := by
  unfold eGr
  split
  · rfl
  · have := h.sl1 k hk
    show updN G.ag G.m a (G.ev k).sl * 4294967296 + (G.ev k).nu = _
    rw [updN_o (by omega)]; rfl
theorem srtH (h : G.ok) (hd : HdS G H) (s a : Nat) : SrtK (eGr G s a) H H H.length := by
  refine ⟨rfl, fun x => by rw [List.take_length], ?_⟩
  refine List.Pairwise.imp_of_mem (fun {x y} hx hy q => ?_) hd.2
  rw [eGr_key h ((hd.1 x).1 hx).1, eGr_key h ((hd.1 y).1 hy).1]
  exact q
theorem own_pre (hg : GT G T) (hs : OwSl G p s) (hn : G.n < 8192) (hp : p < 256) (hd : HdS G H) : raP G T p s G.cn H := by
  have ho : OwP G T p (some 0) 0 s := ⟨hn, hp, hs, fun c z => ⟨by cases z; decide, Nat.zero_le _⟩, fun z => by cases z⟩
  have := raP_of (ho.enp hg hd) hg (srtH hg.1 hd s p)
  rw [hd.jn hg.1] at this
  exact this
theorem own_pa (G : Gr) (s p : Nat) (W : Nat → Nat) (H : List Nat) : ((pGr (eGr G s p) s W H).ev G.n).pa = W ∧ ((pGr (eGr G s p) s W H).ev G.n).ch = none ∧ ((pGr (eGr G s p) s W H).ev G.n).tg = 8192 := by
  have := pGr_n (G := eGr G s p) (s := s) (W := W) (pr := H)
  rw [(eGr_n G s p).1] at this
  rw [this]
  exact ⟨rfl, rfl, rfl⟩
theorem own_len (hg : GT G T) (hs : OwSl G p s) (hp : p < 256) : (T.od.filter (snW (pGr (eGr G s p) s G.cn H) G.cn)).length = visN G T := by
  have hge : GT (eGr G s p) T := hs.gt hg hp
  have hn8 : (eGr G s p).n ≤ 8192 := by rw [(eGr_n G s p).1]; exact hg.1.hn
  have e1 : T.od.filter (snW (pGr (eGr G s p) s G.cn H) G.cn) = T.od.filter (snW (eGr G s p) G.cn) := List.filter_congr (fun x hx => (snW_pnd (pnd_od hg s p hx) hn8).1)
  rw [e1, ← hge.c1, (eGr_n G s p).1, eGr_c1]
  exact gt_vc hg
theorem own_del (hg : GT G T) (hs : OwSl G p s) (hn : G.n < 8192) (hp : p < 256) (hd : HdS G H) (hix : ix < visN G T) {j t : Nat} (hj : atP T.od (snW (pGr (eGr G s p) s G.cn H) G.cn) ix j) (ht : T.od.getD j 0 = t + 1) : OwS G T p s none ix ((pGr (eGr G s p) s G.cn H).setD G.n ix t) T := by
  have ho : OwP G T p none ix s := ⟨hn, hp, hs, fun c z => (by cases z), fun _ => hix⟩
  have hjn := hd.jn hg.1
  rw [← hjn] at hj
  have := stp_del (ho.enp hg hd) hg (srtH hg.1 hd s p) hj ht
  rw [hjn] at this
  exact ⟨H, hd, this⟩
theorem own_ins (hg : GT G T) (hs : OwSl G p s) (hn : G.n < 8192) (hp : p < 256) (hd : HdS G H) (hix : ix ≤ visN G T) (hc : c < 2000000) {U V : List Nat} (hi : T.ins T' (ivW (pGr (eGr G s p) s G.cn H) G.cn) (snW (pGr (eGr G s p) s G.cn H) G.cn) (lessK (pGr (eGr G s p) s G.cn H) G.n) (G.n + 1) ix) (hU : T.od = U ++ V) (hU' : T'.od = U ++ (G.n + 1) :: V) : OwS G T p s (some c) ix ((pGr (eGr G s p) s G.cn H).setI G.n ix c) T' := by
  have ho : OwP G T p (some c) ix s := ⟨hn, hp, hs, fun c' z => by cases z; exact ⟨hc, hix⟩, fun z => (by cases z)⟩
  have hjn := hd.jn hg.1
  rw [← hjn] at hi
  have := stp_ins (ho.enp hg hd) hg (srtH hg.1 hd s p) hi hU hU'
  rw [hjn] at this
  exact ⟨H, hd, this⟩
theorem OwS.nx {oc : Option Nat} {G' : Gr} (h : OwS G T p s oc ix G' T') (hs : OwSl G p s) : G'.n = G.n + 1 ∧ G'.cn s = G.cn s + 1 ∧ OwSl G' p s ∧ GT G' T' := by
  obtain ⟨H, -, h⟩ := h
  obtain ⟨a, b, c, d, e⟩ := h.nx hs.eg
  exact ⟨a, b, Or.inl ⟨c, d⟩, e⟩
end OWN2
/-- what n own events of a slot with c events cost in the reference -/
def rA1 (c : Nat) : Nat → Nat
  | 0 => 0
  | k + 1 => rA1 c k + if rcp (c + k) = c + k then 1 else 0
def rA2 (c : Nat) : Nat → Nat
  | 0 => 0
  | k + 1 => rA2 c k + if rcp (c + k) = c + k then 2 * (c + k) else 0
theorem rA_mono (c : Nat) {j m : Nat} (h : j ≤ m) : rA1 c j ≤ rA1 c m ∧ rA2 c j ≤ rA2 c m := by
  induction m with
  | zero => rw [show j = 0 by omega]; exact ⟨Nat.le_refl _, Nat.le_refl _⟩
  | succ m ih =>
    by_cases e : j = m + 1
    · rw [e]; exact ⟨Nat.le_refl _, Nat.le_refl _⟩
    · obtain ⟨a, b⟩ := ih (by omega)
      exact ⟨Nat.le_trans a (Nat.le_add_right _ _), Nat.le_trans b (Nat.le_add_right _ _)⟩
