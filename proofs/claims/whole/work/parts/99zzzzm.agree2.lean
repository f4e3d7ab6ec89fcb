/-! ===== Both sides agree: summaries ===== -/
theorem seal_eq (c : Int32) : vB (sealV c 4) = (List.range 4).map (clB c) := by
  show [b8 (ush c (8 * nI 0)), b8 (ush c (8 * nI 1)), b8 (ush c (8 * nI 2)), b8 (ush c (8 * nI 3))] = [b8 (c >>> ((8 : Int32) * nI 0 &&& 31)), b8 (c >>> ((8 : Int32) * nI 1 &&& 31)), b8 (c >>> ((8 : Int32) * nI 2 &&& 31)), b8 (c >>> ((8 : Int32) * nI 3 &&& 31))]
  rw [show (8 : Int32) * nI 0 &&& 31 = 0 from by decide, show (8 : Int32) * nI 1 &&& 31 = 8 from by decide, show (8 : Int32) * nI 2 &&& 31 = 16 from by decide, show (8 : Int32) * nI 3 &&& 31 = 24 from by decide, show (8 : Int32) * nI 0 = 0 from by decide, show (8 : Int32) * nI 1 = 8 from by decide, show (8 : Int32) * nI 2 = 16 from by decide, show (8 : Int32) * nI 3 = 24 from by decide, b8_s00, b8_s08, b8_s16, b8_s24, b8_u0]
theorem sumR_B {G : Gr} (hG : G.ok) : ∀ {n : Nat}, n ≤ 256 → vB (sumR G n) = rsmA G n
  | 0, _ => rfl
  | n + 1, h => by
    have h8 := agE_8192 hG n
    rw [sumR, rsmA, vB_app, sumR_B hG (by omega)]
    congr 1
    by_cases c : (agE G n).length = 0
    · rw [if_pos c, if_pos c]; rfl
    · rw [if_neg c, if_neg c, vB_app, vbs_5 (by omega), vbs_5 (by omega)]
theorem sumV_B {G : Gr} (hG : G.ok) {p : Nat} (hp : p < 4) : vB (sumV G p 256) = rsmB G p 256 := by
  have hm := hG.hm
  unfold sumV rsmB
  rw [vB_app, vB_app, vbs_5 (by omega), sumR_B hG (Nat.le_refl _), List.append_assoc]
  congr 1
  show [b8 87, b8 2, b8 (nI p)] = [87, 2, p]
  rw [b8_nI (by omega)]
  rfl
/-- the summaries are alike -/
theorem sum_eq {G : Gr} (hG : G.ok) {p : Nat} (hp : p < 4) : bPuts [] (sumA G p) = rsmB G p 256 ++ (List.range 4).map (clB (crB (rsmB G p 256) (rsmB G p 256).length ^^^ -1)) := by
  have h1 := rsmA_len G 256
  have h2 := vbN_len 5 G.m
  have e1 := sumV_B hG hp
  have hl : (rsmB G p 256).length = 3 + (vbN 5 G.m).length + (rsmA G 256).length := by
    unfold rsmB
    rw [List.length_append, List.length_append]; rfl
  have hv : (sumV G p 256).length = (rsmB G p 256).length := by rw [← e1, vB_len]
  have e2 : bPuts [] (sumV G p 256) = rsmB G p 256 := by
    rw [bPuts_fit (by rw [List.length_nil]; omega), List.nil_append]
    exact e1
  rw [bPuts_fit (by rw [List.length_nil, sumA_len]; omega), List.nil_append]
  show vB (sumA G p) = _
  unfold sumA
  rw [vB_app, e1, e2, seal_eq, crB_of _ (by omega)]
