/-! ===== the law's beginning ===== -/
def zA0 : zA := ((0, 0, 0, 0), ((fun _ => 0), (fun _ => 0), (fun _ => 0)), ((fun _ _ => 0), (fun _ _ => 0), (fun _ _ => 0)), (fun _ => none), (fun r => ([1, 2, 5, 9, 10] : List Nat).getD r 0), (fun _ => none), (fun _ => 0), (fun _ => 0))
def zX0 : zX := (zA0, (0, fun _ => 0), none, none)
theorem zX0_w : IW zX0 := by
  refine ⟨⟨⟨by decide, by decide, by decide, by decide⟩, fun p hp => absurd hp (Nat.not_lt_zero p), fun s hs => absurd hs (Nat.not_lt_zero s), by decide, fun w _ x hx => (by cases hx), fun j hj => absurd hj (Nat.not_lt_zero j), fun j hj => absurd hj (Nat.not_lt_zero j)⟩, ⟨by decide, fun j hj => absurd hj (Nat.not_lt_zero j)⟩, fun B hB => (by cases hB), fun B hB => (by cases hB)⟩
set_option maxRecDepth 100000 in
theorem zz_b1 : zz_D zz_dtB 3 10 = nI 0 ∧ zz_D zz_dtB 3 11 = nI 0 ∧ zz_D zz_dtB 32 1 = nI 0 ∧ zz_D zz_dtB 34 1 = nI 0 ∧ zz_D zz_dtB 1 1 = nI 0 ∧ zz_D zz_dtB 307 0 = nI 0 ∧ zz_D zz_dtB 307 1 = nI 0 := by decide +kernel
set_option maxRecDepth 100000 in
theorem zz_b2x : zz_D zz_dtB 359 0 = nI 0 ∧ zz_D zz_dtB 359 2 = nI 0 ∧ zz_D zz_dtB 359 8 = nI 0 ∧ zz_D zz_dtB 370 0 = nI 0 ∧ zz_D zz_dtB 370 1 = nI 0 ∧ zz_D zz_dtB 380 0 = nI 0 ∧ zz_D zz_dtB 380 1 = nI 0 := by decide +kernel
set_option maxRecDepth 100000 in
theorem zz_b3 : (∀ r, r < 5 → zz_D zz_dtB 30 r = nI (rt zA0 r)) ∧ (∀ w, w < 16 → zz_D zz_dtB 31 w = ob (mu zA0 w)) ∧ (∀ r, r < 5 → zz_D zz_dtB 368 r = nI (rt zA0 r)) ∧ ∀ w, w < 16 → zz_D zz_dtB 369 w = ob (mu zA0 w) := by decide +kernel
set_option maxRecDepth 100000 in
theorem zz_b4 : (∀ p, p < 12 → zz_D zz_dtB (3 + 33 + 4 * p) 1 = nI 0 ∧ zz_D zz_dtB (3 + 35 + 4 * p) 1 = nI 0) ∧ ∀ s, s < 10 → zz_D zz_dtB (3 + 81 + 2 * s) 1 = nI 0 := by decide +kernel
theorem zX0_c : IC (zz_D zz_dtB) zX0 := by
  obtain ⟨a1, a2, a3, a4, a5, a6, a7⟩ := zz_b1
  obtain ⟨b1, b2, -, -⟩ := zz_b3
  refine ⟨⟨⟨⟨a1, a2⟩, fun p hp => absurd hp (Nat.not_lt_zero p), fun s hs => absurd hs (Nat.not_lt_zero s), b1, b2, ⟨a3, fun j hj => absurd hj (Nat.not_lt_zero j)⟩, ⟨a4, fun j hj => absurd hj (Nat.not_lt_zero j)⟩⟩, fun s hs => absurd hs (Nat.not_lt_zero s), fun p hp => ⟨⟨0, by decide, (zz_b4.1 p hp).1⟩, ⟨0, by decide, (zz_b4.1 p hp).2⟩⟩, fun s hs => ⟨0, by decide, zz_b4.2 s hs⟩⟩, ⟨a5, fun j hj => absurd hj (Nat.not_lt_zero j)⟩, ⟨a6, fun B hB => by cases hB⟩, ⟨a7, fun B hB => by cases hB⟩⟩
theorem zX0_o : IOm (zz_D zz_dtB) zX0 := by
  obtain ⟨a1, a2, a3, a4, a5, a6, a7⟩ := zz_b2x
  obtain ⟨-, -, b1, b2⟩ := zz_b3
  refine ⟨⟨⟨a2, a3, a4, a5⟩, fun p hp => absurd hp (Nat.not_lt_zero p), fun s hs => absurd hs (Nat.not_lt_zero s), b1, b2, fun j hj => absurd hj (Nat.not_lt_zero j), fun j hj => absurd hj (Nat.not_lt_zero j)⟩, ⟨a1, fun j hj => absurd hj (Nat.not_lt_zero j)⟩, ⟨a6, fun B hB => by cases hB⟩, ⟨a7, fun B hB => by cases hB⟩⟩
set_option maxRecDepth 100000 in
theorem zz_tk : (zz_SH.take 359).length = 359 := by decide +kernel
set_option maxRecDepth 100000 in
theorem zz_dA : zz_dtA.getD 359 [] = [] := by decide +kernel
set_option maxRecDepth 100000 in
set_option maxHeartbeats 4000000 in
theorem l_start {sc : Nat × (Nat → Int32)} (hL : sc.1 ≤ 2048) : Ev sc 11 (1 + (358 + (1 + (21 + 0)))) (zz_Nn 5 + (5058 + (zz_Nn 6 + (3068 + 0)))) mL_law 0 [some (.ref 100000), none, none, none] [] ([], zz_D [], zJ0) (fun r _ => r = some (.int (nI 1))) := by
  have n5 := zz_nw_ok (oc := 8) (idx := 7) (ci := 5) rfl
  have n6 := zz_nw_ok (oc := 8) (idx := 10) (ci := 6) rfl
  obtain ⟨p1, p2, p3, p4, p5, p6, p7, p8, p9, p10⟩ := zz_cm_ok 6
  obtain ⟨q1, q2, q3, q4, q5, q6, q7, q8, q9, q10⟩ := zz_cm_ok 7
  refine Ev.new (idx := 7) (ci := 5) (by decide +kernel) n5.1 n5.2.1 n5.2.2.1 n5.2.2.2 (by decide) (fun j => rfl) ?_
  show Ev _ _ _ _ _ 3 [some (.ref 100000), none, none, none] [.ref 0] ([.inl (5, zz_df 5)], zz_D [], zJ0) _
  refine Ev.run [(.dup, 1)] (pc' := 4) (L' := [some (.ref 100000), none, none, none]) (S' := [.ref 0, .ref 0]) rfl (by decide +kernel) rfl ?_
  refine Ev.callI (d := 10) (idx := 9) (n := 0) (k := 0) mX6_init [] [.ref 0] _ p1 p2 p3 (by decide +kernel) p4 p5 p6 p7 (by decide +kernel) rfl (Nat.le_of_ble_eq_true rfl) (c_X6_init (sc := sc)) ?_
  rintro _ _ ⟨rfl, rfl⟩
  show Ev _ _ _ _ _ 7 [some (.ref 100000), none, none, none] [.ref 0] (zz_SH.take 359, zz_D zz_dtA, zJ0) _
  refine Ev.run [(.astore_n 1, 1)] (pc' := 8) (L' := [some (.ref 100000), some (.ref 0), none, none]) (S' := []) rfl (by decide +kernel) rfl ?_
  refine Ev.new (idx := 10) (ci := 6) (by decide +kernel) n6.1 n6.2.1 n6.2.2.1 n6.2.2.2 (by show (zz_SH.take 359).length + 1 < 100000; rw [zz_tk]; decide) (fun j => ?_) ?_
  · show (zz_dtA.getD (zz_SH.take 359).length []).getD j 0 = 0
    rw [zz_tk, zz_dA]
    simp
  show Ev _ _ _ _ _ 11 [some (.ref 100000), some (.ref 0), none, none] [.ref (zz_SH.take 359).length] (zz_SH.take 359 ++ [.inl (6, zz_df 6)], zz_D zz_dtA, zJ0) _
  rw [zz_tk]
  refine Ev.run [(.dup, 1)] (pc' := 12) (L' := [some (.ref 100000), some (.ref 0), none, none]) (S' := [.ref 359, .ref 359]) rfl (by decide +kernel) rfl ?_
  refine Ev.callI (d := 10) (idx := 12) (n := 0) (k := 359) mX7_init [] [.ref 359] _ q1 q2 q3 (by decide +kernel) q4 q5 q6 q7 (by decide +kernel) rfl (Nat.le_of_ble_eq_true rfl) (c_X7_init (sc := sc)) ?_
  rintro _ _ ⟨rfl, rfl⟩
  show Ev _ _ _ _ _ 15 [some (.ref 100000), some (.ref 0), none, none] [.ref 359] (zz_SH, zz_D zz_dtB, zJ0) _
  refine Ev.run [(.astore_n 2, 1), (.iconst 0, 1), (.istore_n 3, 1)] (pc' := 18) (L' := [some (.ref 100000), some (.ref 0), some (.ref 359), some (.int (nI 0))]) (S' := []) rfl (by decide +kernel) rfl ?_
  exact l_law hL 3001 0 zX0 (zz_D zz_dtB) zJ0 (by omega) (by omega) zX0_w zX0_c zX0_o
