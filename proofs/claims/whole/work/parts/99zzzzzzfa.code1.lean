/-! ===== The law: its code's check, 1 ===== -/
def chkT (cc : ByteArray) : Nat → CD → Bool
  | 0, _ => true
  | _ + 1, [] => true
  | k + 1, q :: r => decide (decode cc q.1 = .ok (q.2, ilen q.2)) && jok q.1 q.2 && (match r with
    | [] => true
    | q2 :: _ => Nat.beq q2.1 (q.1 + ilen q.2)) && chkT cc k r
theorem chk_of {cc : ByteArray} : ∀ {k : Nat} {L : CD}, chkT cc k L = true → chk cc (L.drop k) = true → chk cc L = true
  | 0, L, _, h => h
  | k + 1, [], _, _ => rfl
  | k + 1, q :: r, h1, h2 => by
    have h3 := Bool.and_eq_true_iff.1 h1
    exact Bool.and_eq_true_iff.2 ⟨h3.1, chk_of h3.2 h2⟩
theorem chk_dr {cc : ByteArray} {n k j : Nat} {L : CD} (h1 : chkT cc k (L.drop n) = true) (e : n + k = j) (h2 : chk cc (L.drop j) = true) : chk cc (L.drop n) = true := chk_of h1 (by rw [List.drop_drop, e]; exact h2)
set_option maxRecDepth 100000 in
theorem kT_0 : chkT code 40 (tL_law.drop 0) = true := by decide +kernel
set_option maxRecDepth 100000 in
theorem kT_40 : chkT code 40 (tL_law.drop 40) = true := by decide +kernel
set_option maxRecDepth 100000 in
theorem kT_80 : chkT code 40 (tL_law.drop 80) = true := by decide +kernel
set_option maxRecDepth 100000 in
theorem kT_120 : chkT code 40 (tL_law.drop 120) = true := by decide +kernel
set_option maxRecDepth 100000 in
theorem kT_160 : chkT code 40 (tL_law.drop 160) = true := by decide +kernel
set_option maxRecDepth 100000 in
theorem kT_200 : chkT code 40 (tL_law.drop 200) = true := by decide +kernel
set_option maxRecDepth 100000 in
theorem kT_240 : chkT code 40 (tL_law.drop 240) = true := by decide +kernel
set_option maxRecDepth 100000 in
theorem kT_280 : chkT code 40 (tL_law.drop 280) = true := by decide +kernel
set_option maxRecDepth 100000 in
theorem kT_320 : chkT code 40 (tL_law.drop 320) = true := by decide +kernel
