/-! ===== The law: what holds between its calls, with sizes and costs ===== -/
/-- sizes of rows -/
def LIk (kz k2 : Nat → Nat) : Prop := kz 10 ≤ 16384 ∧ (∀ p, p < 4 → (kz (30 + p) = 0 ∨ 10 ≤ kz (30 + p)) ∧ kz (30 + p) ≤ 12288) ∧ kz 50 ≤ 32768 ∧ 16 ≤ k2 40 ∧ k2 40 ≤ 16384 ∧ 16 ≤ k2 47 ∧ k2 47 ≤ 65536 ∧ k2 24 ≤ 65536 ∧ hkD k2 ∧ 64 ≤ k2 9
def pCc (Q : Ab) (kz : Nat → Nat) : Nat := smN (fun p => gcC (Q.G p)) 4 + kz 10 + kz 12 + smN (fun p => kz (30 + p)) 4
def pZc (Q : Ab) (kz : Nat → Nat) : Nat := smN (fun p => gcZ (Q.G p)) 4 + 2 * kz 0 + 2 * kz 1 + 2 * kz 10 + 2 * kz 12 + 2 * smN (fun k => kz (20 + k)) 8 + 4 * smN (fun p => kz (30 + p)) 4 + 2 * smN (fun k => kz (40 + k)) 6 + pO (kz 50)
def fuS (R : Rb) : Nat := smN (fun i => if R.Q.sl i = [] then 0 else 1) 8
def pCr (R : Rb) (k2 : Nat → Nat) : Nat := smN (fun p => grC (R.Q.G p)) 4 + k2 40 + k2 47 + k2 24 + k2 9
def pZr (R : Rb) (k2 : Nat → Nat) : Nat := smN (fun p => grZ (R.Q.G p)) 4 + 14 * k2 40 + 4 * k2 47 + 2 * k2 24 + 2 * k2 9 + 32768 * fuS R
def cB (j : Nat) (Q : Ab) (kz : Nat → Nat) (R : Rb) (k2 : Nat → Nat) : Nat := 400 + 1000 * j + (pCc Q kz + pCr R k2)
def zB (j : Nat) (Q : Ab) (kz : Nat → Nat) (R : Rb) (k2 : Nat → Nat) : Nat := 1440400 + 8000 * j + (pZc Q kz + pZr R k2)
theorem lgc_self (x : Int64) : lg_cmp x x = 0 := by
  unfold lg_cmp
  simp
theorem smN_c {f : Nat → Nat} {b : Nat} : ∀ {k : Nat}, (∀ t, t < k → f t ≤ b) → smN f k ≤ b * k
  | 0, _ => Nat.zero_le _
  | k + 1, h => by
    have := smN_c (k := k) (fun t ht => h t (by omega))
    have := h k (by omega)
    rw [smN, Nat.mul_succ]; omega
/-- the rows that are bytes -/
theorem WT.kb {S : MM} {F : Nat → Nat × Nat} {t : Nat} {X : Nat → GX} {kz : Nat → Nat} {Q : Ab} (h : WT S F t X kz Q) : (64 ≤ kz 0 ∧ kz 0 ≤ 32768) ∧ (64 ≤ kz 1 ∧ kz 1 ≤ 32768) ∧ (∀ k, k < 8 → 64 ≤ kz (20 + k) ∧ kz (20 + k) ≤ 32768) ∧ (∀ k, k < 6 → 64 ≤ kz (40 + k) ∧ kz (40 + k) ≤ 32768) ∧ 64 ≤ kz 10 ∧ (64 ≤ kz 12 ∧ kz 12 ≤ 32768) ∧ Q.fo < 2 ∧ (∀ b ∈ Q.tp, b < 256) ∧ (∀ k, k < 8 → ∀ b ∈ Q.sl k, b < 256) ∧ Q.tp.length ≤ 32768 := by
  obtain ⟨z, h1, h2, ⟨d0, b0⟩, ⟨d1, B1, b1⟩, h5, ⟨pl, me, a, d, V, cap, w1, w2, w3⟩, h7, ⟨r, f0, s0, hu, hu2⟩, h9⟩ := h
  have c0 := b0.1.cap
  rw [b0.2.2.2] at c0
  have c1 := b1.1.cap
  rw [b1.2.2.2] at c1
  refine ⟨c0, c1, fun k hk => ?_, fun k hk => ?_, ?_, ⟨hu.2.2.2.2.2.2.1, hu2⟩, h1.2.1.2.2.2.1, b0.1.2.2.2.2.2.2.2.1, fun k hk => ?_, b0.1.len⟩
  · obtain ⟨dk, bk⟩ := h5 k hk
    have := bk.1.cap
    rw [bk.2.2.2] at this
    exact this
  · have wc := w1.2.2.2.2.2.2.2.2.2.1
    have := (wc k hk).1.cap
    rw [w2 k hk] at this
    exact this
  · exact h1.2.2.1.2.2.2.2.2.1
  · obtain ⟨dk, bk⟩ := h5 k hk
    exact bk.1.2.2.2.2.2.2.2.1
section LWP
variable {S : MM} {F : Nat → Nat × Nat} {t m o r : Nat} {A : List Int32} {X : Nat → GX} {kz : Nat → Nat} {Q : Ab} {z : Nat → Nat} {Y : Nat → Nat → Nat} {R : Rb} {k2 : Nat → Nat}
theorem pot_le (hW : WT S F t X kz Q) (hI : LIv Q R) (hk : LIk kz k2) : pCc Q kz ≤ 295040 ∧ pZc Q kz ≤ 4262944 ∧ pCr R k2 ≤ 212992 ∧ pZr R k2 ≤ 1081344 := by
  obtain ⟨b0, b1, b2, b4, b10, b12, -⟩ := hW.kb
  obtain ⟨k1, k3, k5, k6, k7, k8, k9, k11, k13, k14⟩ := hk
  have g : ∀ p, p < 4 → gcC (Q.G p) ≤ 49184 ∧ gcZ (Q.G p) ≤ 705288 ∧ grC (Q.G p) ≤ 8192 ∧ grZ (Q.G p) ≤ 32768 := fun p hp => gc_le (hI.2.2.2.1 p hp).1.1
  have s1 : smN (fun p => gcC (Q.G p)) 4 ≤ 49184 * 4 := smN_c (fun p hp => (g p hp).1)
  have s2 : smN (fun p => gcZ (Q.G p)) 4 ≤ 705288 * 4 := smN_c (fun p hp => (g p hp).2.1)
  have s3 : smN (fun p => grC (R.Q.G p)) 4 ≤ 8192 * 4 := smN_c (fun p hp => by rw [hI.1.1]; exact (g p hp).2.2.1)
  have s4 : smN (fun p => grZ (R.Q.G p)) 4 ≤ 32768 * 4 := smN_c (fun p hp => by rw [hI.1.1]; exact (g p hp).2.2.2)
  have s5 : smN (fun k => kz (20 + k)) 8 ≤ 32768 * 8 := smN_c (fun k hk => (b2 k hk).2)
  have s6 : smN (fun k => kz (40 + k)) 6 ≤ 32768 * 6 := smN_c (fun k hk => (b4 k hk).2)
  have s7 : smN (fun p => kz (30 + p)) 4 ≤ 12288 * 4 := smN_c (fun p hp => (k3 p hp).2)
  have s8 : fuS R ≤ 1 * 8 := smN_c (fun i _ => by split <;> decide)
  have s9 : pO (kz 50) ≤ 98304 := by unfold pO; split <;> omega
  have k13a := k13.1
  unfold pCc pZc pCr pZr
  omega
theorem room_le {j cs sl : Nat} (hW : WT S F t X kz Q) (hI : LIv Q R) (hk : LIk kz k2) (hj : j ≤ 64) (hc : cs ≤ cB j Q kz R k2) (hs : sl ≤ zB j Q kz R k2) : cs ≤ 572432 ∧ sl ≤ 7296688 := by
  obtain ⟨p1, p2, p3, p4⟩ := pot_le hW hI hk
  unfold cB at hc
  unfold zB at hs
  omega
theorem nI_lit (i k : Nat) {c : Int32} (h : c = nI k) : nI i + c = nI (i + k) := by
  rw [h, nI_add]
/-- the script is read -/
theorem Lw.rd (h : Lw S F t m o r A X kz Q z Y R k2) {i k : Nat} {c : Int32} (hc : c = nI k) (hk : i + k < A.length) (hA : A.length ≤ 384) : r = r ∧ vp_in (nI i + c) A.length ∧ A.getD (i + k) 0 = A.getD (nI i + c).toNatClampNeg 0 := by
  rw [nI_lit i k hc]
  refine ⟨rfl, vp_in_nI hk (by omega), ?_⟩
  rw [nI_clamp (by omega)]
theorem Lw.rd0 (h : Lw S F t m o r A X kz Q z Y R k2) {i : Nat} (hk : i < A.length) (hA : A.length ≤ 384) : r = r ∧ vp_in (nI i) A.length ∧ A.getD i 0 = A.getD (nI i).toNatClampNeg 0 := by
  refine ⟨rfl, vp_in_nI hk (by omega), ?_⟩
  rw [nI_clamp (by omega)]
theorem lw_cmp {x v : Int32} {N Z0 c1 c2 : Prop} (h : Lw S F t m o r A X kz Q z Y R k2) (he : mI S 1551 m = x) (hv : x = 0 → eJ S o 0 = v.toInt64) (hc : c1) (hs : c2) (hN : N) : 0 = 0 ∧ ∃ v9 : Int32, (isO S 15 m ∧ mI S 1551 m = v9) ∧ c1 ∧ c2 ∧ ((v9 = x → ((¬ x = 0 → N) ∧ (x = 0 → (isO S 18 o ∧ inR S o (0 : Int32) ∧ ((lg_cmp (eJ S o (0 : Int32).toNatClampNeg) v.toInt64 = 0 → N) ∧ (¬ lg_cmp (eJ S o (0 : Int32).toNatClampNeg) v.toInt64 = 0 → Z0)))))) ∧ (¬ v9 = x → Z0)) := by
  refine ⟨rfl, x, ⟨(h.2.1 0).1, he⟩, hc, hs, fun _ => ⟨fun _ => hN, fun x0 => ⟨h.2.2.1.1, inRn (i := 0) h.2.2.1.2.1 (by decide) (by decide), fun _ => hN, fun w => ?_⟩⟩, fun w => absurd rfl w⟩
  refine absurd ?_ w
  show lg_cmp (eJ S o 0) v.toInt64 = 0
  rw [hv x0]
  exact lgc_self _
theorem lw_cmpJ {x : Int32} {v : Int64} {N Z0 c1 c2 : Prop} (h : Lw S F t m o r A X kz Q z Y R k2) (he : mI S 1551 m = x) (hv : x = 0 → eJ S o 0 = v) (hc : c1) (hs : c2) (hN : N) : 0 = 0 ∧ ∃ v9 : Int32, (isO S 15 m ∧ mI S 1551 m = v9) ∧ c1 ∧ c2 ∧ ((v9 = x → ((¬ x = 0 → N) ∧ (x = 0 → (isO S 18 o ∧ inR S o (0 : Int32) ∧ ((lg_cmp (eJ S o (0 : Int32).toNatClampNeg) v = 0 → N) ∧ (¬ lg_cmp (eJ S o (0 : Int32).toNatClampNeg) v = 0 → Z0)))))) ∧ (¬ v9 = x → Z0)) := by
  refine ⟨rfl, x, ⟨(h.2.1 0).1, he⟩, hc, hs, fun _ => ⟨fun _ => hN, fun x0 => ⟨h.2.2.1.1, inRn (i := 0) h.2.2.1.2.1 (by decide) (by decide), fun _ => hN, fun w => ?_⟩⟩, fun w => absurd rfl w⟩
  refine absurd ?_ w
  show lg_cmp (eJ S o 0) v = 0
  rw [hv x0]
  exact lgc_self _
theorem lw_cmp0 {x : Int32} {N Z0 c1 c2 : Prop} (h : Lw S F t m o r A X kz Q z Y R k2) (he : mI S 1551 m = x) (hc : c1) (hs : c2) (hN : N) : 0 = 0 ∧ ∃ v9 : Int32, (isO S 15 m ∧ mI S 1551 m = v9) ∧ c1 ∧ c2 ∧ ((v9 = x → N) ∧ (¬ v9 = x → Z0)) := ⟨rfl, x, ⟨(h.2.1 0).1, he⟩, hc, hs, fun _ => hN, fun w => absurd rfl w⟩
/-- the class's call went well, its value is stored -/
theorem Lw.ok {S0 : MM} {X' : Nat → GX} {kz' : Nat → Nat} {Q' : Ab} {v : Int64} (h : Lw S F t m o r A X kz Q z Y R k2) (hq : wtQ S S0 F t X' kz' Q') : ∃ F6, Lw (loJ S0 o v) F6 t m o r A X' kz' Q' z Y R k2 ∧ eJ (loJ S0 o v) o 0 = v := by
  obtain ⟨F6, h1, -, -⟩ := h.cls hq
  exact ⟨F6, h1.out v⟩
end LWP
def lwL (r t m o j : Nat) : List (Nat × MV) := [(0, .inr (.inr (some r))), (1, .inr (.inr (some t))), (2, .inr (.inr (some m))), (3, .inr (.inr (some o))), (4, .inl (nI (6 * j)))]
/-- a case begins -/
def LCs (A : List Int32) (r t m o j : Nat) (S1 : MM) (F : Nat → Nat × Nat) (X : Nat → GX) (kz : Nat → Nat) (Q : Ab) (z : Nat → Nat) (Y : Nat → Nat → Nat) (R : Rb) (k2 : Nat → Nat) (cs sl : Nat) : Prop := Lw S1 F t m o r A X kz Q z Y R k2 ∧ LIv Q R ∧ LIk kz k2 ∧ cs ≤ cB j Q kz R k2 ∧ sl ≤ zB j Q kz R k2
def I_lp (r : Nat) (A : List Int32) (k : Nat) : KT := fun lo st S1 cs sl => ∃ j t m o F X kz Q z Y R k2, k + 3 * j = 300 + 2 ∧ j ≤ 64 ∧ A.length ≤ 384 ∧ LCs A r t m o j S1 F X kz Q z Y R k2 cs sl ∧ lo = lwL r t m o j ∧ st = []
def I_lc (r : Nat) (A : List Int32) (k : Nat) : KT := fun lo st S1 cs sl => ∃ j t m o F X kz Q z Y R k2, k + 3 * j = 300 + 1 ∧ 6 * j + 6 ≤ A.length ∧ A.length ≤ 384 ∧ LCs A r t m o j S1 F X kz Q z Y R k2 cs sl ∧ lo = lwL r t m o j ∧ st = []
def I_nx (r : Nat) (A : List Int32) (k : Nat) : KT := fun lo st S1 cs sl => ∃ j t m o F X kz Q z Y R k2, k + 3 * j = 300 ∧ 6 * j + 6 ≤ A.length ∧ A.length ≤ 384 ∧ LCs A r t m o (j + 1) S1 F X kz Q z Y R k2 cs sl ∧ lo = lwL r t m o j ∧ st = []
/-- a case ends -/
theorem nx_of {r t m o j k : Nat} {A : List Int32} {S1 : MM} {F : Nat → Nat × Nat} {X : Nat → GX} {kz : Nat → Nat} {Q : Ab} {z : Nat → Nat} {Y : Nat → Nat → Nat} {R : Rb} {k2 : Nat → Nat} {cs sl : Nat} (hk : k + 3 * j = 300 + 1) (hj : 6 * j + 6 ≤ A.length) (hA : A.length ≤ 384) (h : LCs A r t m o (j + 1) S1 F X kz Q z Y R k2 cs sl) : ∃ k1, k1 < k ∧ I_nx r A k1 (lwL r t m o j) [] S1 cs sl := ⟨300 - 3 * j, by omega, j, t, m, o, F, X, kz, Q, z, Y, R, k2, by omega, hj, hA, h, rfl, rfl⟩
