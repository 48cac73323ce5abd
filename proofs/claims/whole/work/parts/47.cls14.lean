/-! ===== the class: laying ===== -/
theorem zz_of1 {sc : Nat × (Nat → Int32)} : ∀ {s : Nat}, s < 6 → (zz_xs sc 1).2 s = nI (o1 s) := by
  intro s hs
  rcases (by omega : s = 0 ∨ s = 1 ∨ s = 2 ∨ s = 3 ∨ s = 4 ∨ s = 5) with rfl | rfl | rfl | rfl | rfl | rfl
  all_goals rfl
theorem zz_of2 {sc : Nat × (Nat → Int32)} : ∀ {s : Nat}, s < 6 → (zz_xs sc 2).2 s = nI (o2 s) := by
  intro s hs
  rcases (by omega : s = 0 ∨ s = 1 ∨ s = 2 ∨ s = 3 ∨ s = 4 ∨ s = 5) with rfl | rfl | rfl | rfl | rfl | rfl
  all_goals rfl
theorem zz_of3 {sc : Nat × (Nat → Int32)} : ∀ {s : Nat}, s < 6 → (zz_xs sc 3).2 s = nI (bs s) := by
  intro s hs
  rcases (by omega : s = 0 ∨ s = 1 ∨ s = 2 ∨ s = 3 ∨ s = 4 ∨ s = 5) with rfl | rfl | rfl | rfl | rfl | rfl
  all_goals rfl
theorem zz_abs {a b : Nat} (ha : a < 2 ^ 30) (hb : b < 2 ^ 30) : (if 0 ≤ nI a - nI b then nI a - nI b else 0 - (nI a - nI b)) = nI (absd a b) := by
  by_cases h : 0 ≤ nI a - nI b
  · have q := zz_ge0 ha hb h
    rw [if_pos h, absd, if_pos q, pk_sub q]
  · have q := zz_lt0 ha hb h
    rw [if_neg h, absd, if_neg (by omega), Int32.zero_sub, zz_negs, pk_sub (by omega)]
def mx1 (v : Nat) : Nat := if v = 1000000 then 1000000 else v
theorem mx1_s {v : Nat} (h : v < 1000000) : mx1 v = v := if_neg (by omega)
theorem mx1_le {v : Nat} (h : v ≤ 1000000) : mx1 v ≤ 1000000 := by unfold mx1; split <;> omega
theorem mx1_lt {c v : Nat} (hc : c < 1000000) : c < mx1 v ↔ c < v := by
  unfold mx1; split <;> omega
theorem mx1_eq {c v : Nat} (hc : c < 1000000) : c = mx1 v ↔ c = v := by
  unfold mx1; split <;> omega
def TBc (A : zA) (P : Nat → Nat → Prop) (I : Nat → Nat → Int32) (J : Nat → Nat → Int64) : Prop := ∀ i' j', i' ≤ aa A → j' ≤ ab A → P i' j' → I (330 + i') j' = nI (LT A i' j').1 ∧ J (344 + i') j' = (LT A i' j').2

set_option maxRecDepth 100000 in
set_option maxHeartbeats 4000000 in
theorem l_X0_tg {sc : Nat × (Nat → Int32)} {d : Nat} (I : Nat → Nat → Int32) (J : Nat → Nat → Int64) (k n : Nat) (f : Nat → Nat) (hk : zz_row k 12) (hrf : zz_rf I k n f) (hn : n ≤ 12) (hf : ∀ j, j < n → f j ≤ 99) (a c : Nat) (hac : a + c ≤ n) : ∀ (μ : Nat) (q : Nat), c - q < μ → (q ≤ c) →  Ev sc (d + 1) 0 0 mX0_together 5 [some (.ref k), some (.int (nI a)), some (.int (nI c)), some (.int (nI (sm f a q))), some (.int (nI (a + q)))] [] (zz_SH, I, J) (zz_is (.int (nI (sm f a c))) (zz_SH, I, J)) := by
  intro μ
  induction μ with
  | zero => intro q hμ; exact absurd hμ (Nat.not_lt_zero _)
  | succ μ ih =>
    intro q hμ hq
    refine Ev.run [(.iload 4, 2), (.iload_n 1, 1), (.iload_n 2, 1), (.iadd, 1)] (pc' := 10) (L' := [some (.ref k), some (.int (nI a)), some (.int (nI c)), some (.int (nI (sm f a q))), some (.int (nI (a + q)))]) (S' := [.int (nI a + nI c), .int (nI (a + q))]) rfl (by decide +kernel) rfl ?_
    rw [nI_add a c]
    refine Ev.icmp_ge (off := 18) (tgt := 28) (by decide +kernel) (by decide) (fun h10 => ?_) (fun h10 => ?_)
    · have h10 : (a + q) ≥ (a + c) := zz_bG_t (by omega) (by omega) h10
      have hqc : q = c := by omega
      refine Ev.run [(.iload_n 3, 1)] (pc' := 29) (L' := [some (.ref k), some (.int (nI a)), some (.int (nI c)), some (.int (nI (sm f a q))), some (.int (nI (a + q)))]) (S' := [.int (nI (sm f a q))]) rfl (by decide +kernel) rfl ?_
      exact Ev.iret rfl (by decide +kernel) (⟨by rw [hqc], rfl⟩)
    · have h10 : (a + q) < (a + c) := zz_bG_f (by omega) (by omega) h10
      refine Ev.run [(.iload_n 3, 1), (.aload_n 0, 1), (.iload 4, 2)] (pc' := 17) (L' := [some (.ref k), some (.int (nI a)), some (.int (nI c)), some (.int (nI (sm f a q))), some (.int (nI (a + q)))]) (S' := [.int (nI (a + q)), .ref k, .int (nI (sm f a q))]) rfl (by decide +kernel) rfl ?_
      refine Ev.callV0 mX4_at [.int (nI (a + q))] [.int (nI (sm f a q))] _ rfl lk_RX0_71 (by decide +kernel) (hk.1) rfl rfl rfl (Nat.le_of_ble_eq_true rfl) (c_X4_at I J k 12 (nI (a + q)) hk) ?_
      rintro _ _ ⟨rfl, rfl⟩
      rw [zz_rf.at hrf hn (by decide) (by omega)]
      show Ev _ _ _ _ _ 20 [some (.ref k), some (.int (nI a)), some (.int (nI c)), some (.int (nI (sm f a q))), some (.int (nI (a + q)))] [.int (nI (f (a + q))), .int (nI (sm f a q))] (zz_SH, I, J) _
      refine Ev.run [(.iadd, 1)] (pc' := 21) (L' := [some (.ref k), some (.int (nI a)), some (.int (nI c)), some (.int (nI (sm f a q))), some (.int (nI (a + q)))]) (S' := [.int (nI (sm f a q) + nI (f (a + q)))]) rfl (by decide +kernel) rfl ?_
      rw [nI_add (sm f a q) (f (a + q))]
      refine Ev.run [(.istore_n 3, 1), (.iinc 4 1, 3)] (pc' := 25) (L' := [some (.ref k), some (.int (nI a)), some (.int (nI c)), some (.int (nI ((sm f a q) + (f (a + q))))), some (.int (nI (a + q) + 1))]) (S' := []) rfl (by decide +kernel) rfl ?_
      rw [nI_1 (a + q)]
      refine Ev.goto (off := (-20)) (tgt := 5) (by decide +kernel) (by decide) ?_
      rw [Nat.add_assoc a q 1]
      exact ih (q + 1) (by omega) (by omega)

set_option maxRecDepth 100000 in
set_option maxHeartbeats 4000000 in
theorem c_X0_together {sc : Nat × (Nat → Int32)} {d : Nat} (I : Nat → Nat → Int32) (J : Nat → Nat → Int64) (k n : Nat) (f : Nat → Nat) (hk : zz_row k 12) (hrf : zz_rf I k n f) (hn : n ≤ 12) (hf : ∀ j, j < n → f j ≤ 99) (a c : Nat) (hac : a + c ≤ n) : EvM sc (d + 1) 0 0 mX0_together [.ref k, .int (nI a), .int (nI c)] (zz_SH, I, J) (zz_is (.int (nI (sm f a c))) (zz_SH, I, J)) := by
  refine EvM.of (by decide) rfl (Nat.le_of_ble_eq_true rfl) ?_
  show Ev _ _ _ _ _ 0 [some (.ref k), some (.int (nI a)), some (.int (nI c)), none, none] [] (zz_SH, I, J) _
  refine Ev.run [(.iconst 0, 1), (.istore_n 3, 1), (.iload_n 1, 1), (.istore 4, 2)] (pc' := 5) (L' := [some (.ref k), some (.int (nI a)), some (.int (nI c)), some (.int (nI 0)), some (.int (nI a))]) (S' := []) rfl (by decide +kernel) rfl ?_
  exact l_X0_tg I J k n f hk hrf hn hf a c hac (c + 1) 0 (by omega) (by omega)

set_option maxRecDepth 100000 in
set_option maxHeartbeats 4000000 in
theorem c_X0_fits {sc : Nat × (Nat → Int32)} {d : Nat} (I : Nat → Nat → Int32) (J : Nat → Nat → Int64) (A : zA) (hC : CR 3 I A) (hW : WF A) (s i j : Nat) (hs : s < 6) (hi : i ≤ 12) (hj : j ≤ 12) : EvM sc (d) 0 0 mX0_fits [.ref 32, .int (nI i), .ref 34, .int (nI j), .int (nI s)] (zz_SH, I, J) (zz_tf (i + o1 s ≤ aa A ∧ j + o2 s ≤ ab A) (zz_SH, I, J)) := by
  have w1 := hW.1.1
  have w2 := hW.1.2.1
  have l1 := o1_le s
  have l2 := o2_le s
  have l3 := hW.1.2.2
  refine EvM.of (by decide) rfl (Nat.le_of_ble_eq_true rfl) ?_
  show Ev _ _ _ _ _ 0 [some (.ref 32), some (.int (nI i)), some (.ref 34), some (.int (nI j)), some (.int (nI s))] [] (zz_SH, I, J) _
  refine Ev.run [(.iload_n 1, 1)] (pc' := 1) (L' := [some (.ref 32), some (.int (nI i)), some (.ref 34), some (.int (nI j)), some (.int (nI s))]) (S' := [.int (nI i)]) rfl (by decide +kernel) rfl ?_
  refine Ev.gets (idx := 51) (i0 := 1) (by decide +kernel) (by decide) (by decide) (by decide +kernel) ?_
  refine Ev.run [(.iload 4, 2)] (pc' := 6) (L' := [some (.ref 32), some (.int (nI i)), some (.ref 34), some (.int (nI j)), some (.int (nI s))]) (S' := [.int (nI s), .ref 100001, .int (nI i)]) rfl (by decide +kernel) rfl ?_
  refine Ev.xldN (i0 := 1) s (by decide +kernel) (by decide) (rfl) (show s < 6 by omega) (show 6 < 2 ^ 31 by decide) ?_
  try dsimp only
  rw [zz_of1 (by omega)]
  refine Ev.run [(.iadd, 1)] (pc' := 8) (L' := [some (.ref 32), some (.int (nI i)), some (.ref 34), some (.int (nI j)), some (.int (nI s))]) (S' := [.int (nI i + nI (o1 s))]) rfl (by decide +kernel) rfl ?_
  rw [nI_add i (o1 s)]
  refine Ev.run [(.aload_n 0, 1), (.getfield 30, 3)] (pc' := 12) (L' := [some (.ref 32), some (.int (nI i)), some (.ref 34), some (.int (nI j)), some (.int (nI s))]) (S' := [.int (I 32 1), .int (nI (i + (o1 s)))]) rfl (by decide +kernel) rfl ?_
  rw [show I 32 1 = nI (aa A) from hC.1.2.2.2.2.2.1.1]
  refine Ev.icmp_gt (off := 22) (tgt := 34) (by decide +kernel) (by decide) (fun h12 => ?_) (fun h12 => ?_)
  · have h12 : (i + (o1 s)) > (aa A) := zz_bL'_t (by omega) (by omega) h12
    refine Ev.run [(.iconst 0, 1)] (pc' := 35) (L' := [some (.ref 32), some (.int (nI i)), some (.ref 34), some (.int (nI j)), some (.int (nI s))]) (S' := [.int (nI 0)]) rfl (by decide +kernel) rfl ?_
    exact Ev.zret rfl (by decide +kernel) (Or.inl rfl) (⟨rfl, Or.inr ⟨rfl, by omega⟩⟩)
  · have h12 : (i + (o1 s)) ≤ (aa A) := zz_bL'_f (by omega) (by omega) h12
    refine Ev.run [(.iload_n 3, 1)] (pc' := 16) (L' := [some (.ref 32), some (.int (nI i)), some (.ref 34), some (.int (nI j)), some (.int (nI s))]) (S' := [.int (nI j)]) rfl (by decide +kernel) rfl ?_
    refine Ev.gets (idx := 55) (i0 := 2) (by decide +kernel) (by decide) (by decide) (by decide +kernel) ?_
    refine Ev.run [(.iload 4, 2)] (pc' := 21) (L' := [some (.ref 32), some (.int (nI i)), some (.ref 34), some (.int (nI j)), some (.int (nI s))]) (S' := [.int (nI s), .ref 100002, .int (nI j)]) rfl (by decide +kernel) rfl ?_
    refine Ev.xldN (i0 := 2) s (by decide +kernel) (by decide) (rfl) (show s < 6 by omega) (show 6 < 2 ^ 31 by decide) ?_
    try dsimp only
    rw [zz_of2 (by omega)]
    refine Ev.run [(.iadd, 1)] (pc' := 23) (L' := [some (.ref 32), some (.int (nI i)), some (.ref 34), some (.int (nI j)), some (.int (nI s))]) (S' := [.int (nI j + nI (o2 s))]) rfl (by decide +kernel) rfl ?_
    rw [nI_add j (o2 s)]
    refine Ev.run [(.aload_n 2, 1), (.getfield 30, 3)] (pc' := 27) (L' := [some (.ref 32), some (.int (nI i)), some (.ref 34), some (.int (nI j)), some (.int (nI s))]) (S' := [.int (I 34 1), .int (nI (j + (o2 s)))]) rfl (by decide +kernel) rfl ?_
    rw [show I 34 1 = nI (ab A) from hC.1.2.2.2.2.2.2.1]
    refine Ev.icmp_gt (off := 7) (tgt := 34) (by decide +kernel) (by decide) (fun h27 => ?_) (fun h27 => ?_)
    · have h27 : (j + (o2 s)) > (ab A) := zz_bL'_t (by omega) (by omega) h27
      refine Ev.run [(.iconst 0, 1)] (pc' := 35) (L' := [some (.ref 32), some (.int (nI i)), some (.ref 34), some (.int (nI j)), some (.int (nI s))]) (S' := [.int (nI 0)]) rfl (by decide +kernel) rfl ?_
      exact Ev.zret rfl (by decide +kernel) (Or.inl rfl) (⟨rfl, Or.inr ⟨rfl, by omega⟩⟩)
    · have h27 : (j + (o2 s)) ≤ (ab A) := zz_bL'_f (by omega) (by omega) h27
      refine Ev.run [(.iconst 1, 1)] (pc' := 31) (L' := [some (.ref 32), some (.int (nI i)), some (.ref 34), some (.int (nI j)), some (.int (nI s))]) (S' := [.int (nI 1)]) rfl (by decide +kernel) rfl ?_
      refine Ev.goto (off := 4) (tgt := 35) (by decide +kernel) (by decide) ?_
      exact Ev.zret rfl (by decide +kernel) (Or.inr rfl) (⟨rfl, Or.inl ⟨rfl, by omega⟩⟩)

set_option maxRecDepth 100000 in
set_option maxHeartbeats 4000000 in
theorem c_X0_costWith {sc : Nat × (Nat → Int32)} {d : Nat} (I : Nat → Nat → Int32) (J : Nat → Nat → Int64) (A : zA) (hC : CR 3 I A) (hW : WF A) (s i j : Nat) (hs : s < 6) (hi : i ≤ 12) (hj : j ≤ 12) (hc : i + o1 s ≤ aa A ∧ j + o2 s ≤ ab A) (hT : I (330 + (i + o1 s)) (j + o2 s) = nI (LT A (i + o1 s) (j + o2 s)).1) : EvM sc (d + 2) 0 0 mX0_costWith [.ref 328, .ref 32, .int (nI i), .ref 34, .int (nI j), .int (nI s)] (zz_SH, I, J) (zz_is (.int (nI (stv A s i j + (LT A (i + o1 s) (j + o2 s)).1))) (zz_SH, I, J)) := by
  have w1 := hW.1.1
  have w2 := hW.1.2.1
  have l1 := o1_le s
  have l2 := o2_le s
  have l3 := hW.1.2.2
  have m1 := sm_le (f := la A) (i := i) (fun j hj => (hW.2.2.2.2.2.1 j hj).2) (o1 s) hc.1
  have m2 := sm_le (f := lb A) (i := j) (fun j hj => (hW.2.2.2.2.2.2 j hj).2) (o2 s) hc.2
  have m3 := bs_le s
  refine EvM.of (by decide) rfl (Nat.le_of_ble_eq_true rfl) ?_
  show Ev _ _ _ _ _ 0 [some (.ref 328), some (.ref 32), some (.int (nI i)), some (.ref 34), some (.int (nI j)), some (.int (nI s)), none] [] (zz_SH, I, J) _
  refine Ev.run [(.aload_n 1, 1), (.iload_n 2, 1)] (pc' := 2) (L' := [some (.ref 328), some (.ref 32), some (.int (nI i)), some (.ref 34), some (.int (nI j)), some (.int (nI s)), none]) (S' := [.int (nI i), .ref 32]) rfl (by decide +kernel) rfl ?_
  refine Ev.gets (idx := 51) (i0 := 1) (by decide +kernel) (by decide) (by decide) (by decide +kernel) ?_
  refine Ev.run [(.iload 5, 2)] (pc' := 7) (L' := [some (.ref 328), some (.ref 32), some (.int (nI i)), some (.ref 34), some (.int (nI j)), some (.int (nI s)), none]) (S' := [.int (nI s), .ref 100001, .int (nI i), .ref 32]) rfl (by decide +kernel) rfl ?_
  refine Ev.xldN (i0 := 1) s (by decide +kernel) (by decide) (rfl) (show s < 6 by omega) (show 6 < 2 ^ 31 by decide) ?_
  try dsimp only
  rw [zz_of1 (by omega)]
  refine Ev.callS0 mX0_together [.ref 32, .int (nI i), .int (nI (o1 s))] [] _ rfl lk_RX0_58 (by decide +kernel) rfl (Nat.le_of_ble_eq_true rfl) (c_X0_together I J 32 (aa A) (la A) zz_row32 hC.1.2.2.2.2.2.1 l3.1 (fun j hj => (hW.2.2.2.2.2.1 j hj).2) i (o1 s) hc.1) ?_
  rintro _ _ ⟨rfl, rfl⟩
  show Ev _ _ _ _ _ 11 [some (.ref 328), some (.ref 32), some (.int (nI i)), some (.ref 34), some (.int (nI j)), some (.int (nI s)), none] [.int (nI (sm (la A) i (o1 s)))] (zz_SH, I, J) _
  refine Ev.run [(.aload_n 3, 1), (.iload 4, 2)] (pc' := 14) (L' := [some (.ref 328), some (.ref 32), some (.int (nI i)), some (.ref 34), some (.int (nI j)), some (.int (nI s)), none]) (S' := [.int (nI j), .ref 34, .int (nI (sm (la A) i (o1 s)))]) rfl (by decide +kernel) rfl ?_
  refine Ev.gets (idx := 55) (i0 := 2) (by decide +kernel) (by decide) (by decide) (by decide +kernel) ?_
  refine Ev.run [(.iload 5, 2)] (pc' := 19) (L' := [some (.ref 328), some (.ref 32), some (.int (nI i)), some (.ref 34), some (.int (nI j)), some (.int (nI s)), none]) (S' := [.int (nI s), .ref 100002, .int (nI j), .ref 34, .int (nI (sm (la A) i (o1 s)))]) rfl (by decide +kernel) rfl ?_
  refine Ev.xldN (i0 := 2) s (by decide +kernel) (by decide) (rfl) (show s < 6 by omega) (show 6 < 2 ^ 31 by decide) ?_
  try dsimp only
  rw [zz_of2 (by omega)]
  refine Ev.callS0 mX0_together [.ref 34, .int (nI j), .int (nI (o2 s))] [.int (nI (sm (la A) i (o1 s)))] _ rfl lk_RX0_58 (by decide +kernel) rfl (Nat.le_of_ble_eq_true rfl) (c_X0_together I J 34 (ab A) (lb A) zz_row34 hC.1.2.2.2.2.2.2 l3.2 (fun j hj => (hW.2.2.2.2.2.2 j hj).2) j (o2 s) hc.2) ?_
  rintro _ _ ⟨rfl, rfl⟩
  show Ev _ _ _ _ _ 23 [some (.ref 328), some (.ref 32), some (.int (nI i)), some (.ref 34), some (.int (nI j)), some (.int (nI s)), none] [.int (nI (sm (lb A) j (o2 s))), .int (nI (sm (la A) i (o1 s)))] (zz_SH, I, J) _
  refine Ev.run [(.isub, 1), (.istore 6, 2), (.iload 6, 2)] (pc' := 28) (L' := [some (.ref 328), some (.ref 32), some (.int (nI i)), some (.ref 34), some (.int (nI j)), some (.int (nI s)), some (.int (nI (sm (la A) i (o1 s)) - nI (sm (lb A) j (o2 s))))]) (S' := [.int (nI (sm (la A) i (o1 s)) - nI (sm (lb A) j (o2 s)))]) rfl (by decide +kernel) rfl ?_
  refine Ev.mabs (idx := 62) (by decide +kernel) (Nat.le_of_ble_eq_true rfl) (by decide +kernel) ?_
  rw [zz_abs (a := sm (la A) i (o1 s)) (b := sm (lb A) j (o2 s)) (by omega) (by omega)]
  refine Ev.gets (idx := 68) (i0 := 3) (by decide +kernel) (by decide) (by decide) (by decide +kernel) ?_
  refine Ev.run [(.iload 5, 2)] (pc' := 36) (L' := [some (.ref 328), some (.ref 32), some (.int (nI i)), some (.ref 34), some (.int (nI j)), some (.int (nI s)), some (.int (nI (sm (la A) i (o1 s)) - nI (sm (lb A) j (o2 s))))]) (S' := [.int (nI s), .ref 100003, .int (nI (absd (sm (la A) i (o1 s)) (sm (lb A) j (o2 s))))]) rfl (by decide +kernel) rfl ?_
  refine Ev.xldN (i0 := 3) s (by decide +kernel) (by decide) (rfl) (show s < 6 by omega) (show 6 < 2 ^ 31 by decide) ?_
  try dsimp only
  rw [zz_of3 (by omega)]
  refine Ev.run [(.iadd, 1)] (pc' := 38) (L' := [some (.ref 328), some (.ref 32), some (.int (nI i)), some (.ref 34), some (.int (nI j)), some (.int (nI s)), some (.int (nI (sm (la A) i (o1 s)) - nI (sm (lb A) j (o2 s))))]) (S' := [.int (nI (absd (sm (la A) i (o1 s)) (sm (lb A) j (o2 s))) + nI (bs s))]) rfl (by decide +kernel) rfl ?_
  rw [nI_add (absd (sm (la A) i (o1 s)) (sm (lb A) j (o2 s))) (bs s)]
  refine Ev.run [(.aload_n 0, 1), (.getfield 11, 3), (.iload_n 2, 1)] (pc' := 43) (L' := [some (.ref 328), some (.ref 32), some (.int (nI i)), some (.ref 34), some (.int (nI j)), some (.int (nI s)), some (.int (nI (sm (la A) i (o1 s)) - nI (sm (lb A) j (o2 s))))]) (S' := [.int (nI i), .ref 329, .int (nI ((absd (sm (la A) i (o1 s)) (sm (lb A) j (o2 s))) + (bs s)))]) rfl (by decide +kernel) rfl ?_
  refine Ev.gets (idx := 51) (i0 := 1) (by decide +kernel) (by decide) (by decide) (by decide +kernel) ?_
  refine Ev.run [(.iload 5, 2)] (pc' := 48) (L' := [some (.ref 328), some (.ref 32), some (.int (nI i)), some (.ref 34), some (.int (nI j)), some (.int (nI s)), some (.int (nI (sm (la A) i (o1 s)) - nI (sm (lb A) j (o2 s))))]) (S' := [.int (nI s), .ref 100001, .int (nI i), .ref 329, .int (nI ((absd (sm (la A) i (o1 s)) (sm (lb A) j (o2 s))) + (bs s)))]) rfl (by decide +kernel) rfl ?_
  refine Ev.xldN (i0 := 1) s (by decide +kernel) (by decide) (rfl) (show s < 6 by omega) (show 6 < 2 ^ 31 by decide) ?_
  try dsimp only
  rw [zz_of1 (by omega)]
  refine Ev.run [(.iadd, 1)] (pc' := 50) (L' := [some (.ref 328), some (.ref 32), some (.int (nI i)), some (.ref 34), some (.int (nI j)), some (.int (nI s)), some (.int (nI (sm (la A) i (o1 s)) - nI (sm (lb A) j (o2 s))))]) (S' := [.int (nI i + nI (o1 s)), .ref 329, .int (nI ((absd (sm (la A) i (o1 s)) (sm (lb A) j (o2 s))) + (bs s)))]) rfl (by decide +kernel) rfl ?_
  rw [nI_add i (o1 s)]
  refine Ev.aald (i + (o1 s)) (by decide +kernel) (rfl) (by decide) (rfl) (by omega) (by first | decide | omega) (zz_b330 (i + (o1 s)) (by omega)) ?_
  refine Ev.run [(.iload 4, 2)] (pc' := 53) (L' := [some (.ref 328), some (.ref 32), some (.int (nI i)), some (.ref 34), some (.int (nI j)), some (.int (nI s)), some (.int (nI (sm (la A) i (o1 s)) - nI (sm (lb A) j (o2 s))))]) (S' := [.int (nI j), .ref (330 + (i + (o1 s))), .int (nI ((absd (sm (la A) i (o1 s)) (sm (lb A) j (o2 s))) + (bs s)))]) rfl (by decide +kernel) rfl ?_
  refine Ev.gets (idx := 55) (i0 := 2) (by decide +kernel) (by decide) (by decide) (by decide +kernel) ?_
  refine Ev.run [(.iload 5, 2)] (pc' := 58) (L' := [some (.ref 328), some (.ref 32), some (.int (nI i)), some (.ref 34), some (.int (nI j)), some (.int (nI s)), some (.int (nI (sm (la A) i (o1 s)) - nI (sm (lb A) j (o2 s))))]) (S' := [.int (nI s), .ref 100002, .int (nI j), .ref (330 + (i + (o1 s))), .int (nI ((absd (sm (la A) i (o1 s)) (sm (lb A) j (o2 s))) + (bs s)))]) rfl (by decide +kernel) rfl ?_
  refine Ev.xldN (i0 := 2) s (by decide +kernel) (by decide) (rfl) (show s < 6 by omega) (show 6 < 2 ^ 31 by decide) ?_
  try dsimp only
  rw [zz_of2 (by omega)]
  refine Ev.run [(.iadd, 1)] (pc' := 60) (L' := [some (.ref 328), some (.ref 32), some (.int (nI i)), some (.ref 34), some (.int (nI j)), some (.int (nI s)), some (.int (nI (sm (la A) i (o1 s)) - nI (sm (lb A) j (o2 s))))]) (S' := [.int (nI j + nI (o2 s)), .ref (330 + (i + (o1 s))), .int (nI ((absd (sm (la A) i (o1 s)) (sm (lb A) j (o2 s))) + (bs s)))]) rfl (by decide +kernel) rfl ?_
  rw [nI_add j (o2 s)]
  refine Ev.iald (j + (o2 s)) (by decide +kernel) (zz_s330 (i + (o1 s)) (by omega)) (rfl) (by omega) (by first | decide | omega) ?_
  try dsimp only
  rw [hT]
  refine Ev.run [(.iadd, 1)] (pc' := 62) (L' := [some (.ref 328), some (.ref 32), some (.int (nI i)), some (.ref 34), some (.int (nI j)), some (.int (nI s)), some (.int (nI (sm (la A) i (o1 s)) - nI (sm (lb A) j (o2 s))))]) (S' := [.int (nI ((absd (sm (la A) i (o1 s)) (sm (lb A) j (o2 s))) + (bs s)) + nI ((LT A (i + o1 s) (j + o2 s)).1))]) rfl (by decide +kernel) rfl ?_
  rw [nI_add ((absd (sm (la A) i (o1 s)) (sm (lb A) j (o2 s))) + (bs s)) ((LT A (i + o1 s) (j + o2 s)).1)]
  exact Ev.iret rfl (by decide +kernel) (⟨by rw [stv], rfl⟩)

set_option maxRecDepth 100000 in
set_option maxHeartbeats 4000000 in
theorem l_X0_fl {sc : Nat × (Nat → Int32)} {d : Nat} (I : Nat → Nat → Int32) (J : Nat → Nat → Int64) (A : zA) (hC : CR 3 I A) (hW : WF A) (i j : Nat) (hi : i ≤ aa A) (hj : j ≤ ab A) (hT : ∀ i' j', i' ≤ aa A → j' ≤ ab A → I (330 + i') j' = nI (LT A i' j').1) (hij : i < aa A ∨ j < ab A) : ∀ (μ : Nat) (s : Nat), 6 - s < μ → (s ≤ 6) → (∀ t, t < s → ¬ isF A i j t) →  Ev sc (d + 3) 0 0 mX0_firstOfLeast 3 [some (.ref 328), some (.ref 32), some (.int (nI i)), some (.ref 34), some (.int (nI j)), some (.int (nI s))] [] (zz_SH, I, J) (zz_is (.int (nI (fst6 A i j))) (zz_SH, I, J)) := by
  intro μ
  induction μ with
  | zero => intro s hμ; exact absurd hμ (Nat.not_lt_zero _)
  | succ μ ih =>
    intro s hμ hs hno
    have w1 := hW.1.1
    have w2 := hW.1.2.1
    have l3 := hW.1.2.2
    have q3 := LT_b hW hi hj
    refine Ev.run [(.iload 5, 2), (.bipush 6, 2)] (pc' := 7) (L' := [some (.ref 328), some (.ref 32), some (.int (nI i)), some (.ref 34), some (.int (nI j)), some (.int (nI s))]) (S' := [.int (nI 6), .int (nI s)]) rfl (by decide +kernel) rfl ?_
    refine Ev.icmp_ge (off := 48) (tgt := 55) (by decide +kernel) (by decide) (fun h7 => ?_) (fun h7 => ?_)
    · have h7 : s ≥ 6 := zz_bG_t (by omega) (by omega) h7
      refine Ev.run [(.bipush (-6), 2)] (pc' := 57) (L' := [some (.ref 328), some (.ref 32), some (.int (nI i)), some (.ref 34), some (.int (nI j)), some (.int (nI s))]) (S' := [.int ((-6))]) rfl (by decide +kernel) rfl ?_
      obtain ⟨s9, z1, z2, z3⟩ := isF_ex hW hi hj hij
      exact absurd z2 (hno s9 (by omega))
    · have h7 : s < 6 := zz_bG_f (by omega) (by omega) h7
      refine Ev.run [(.aload_n 1, 1), (.iload_n 2, 1), (.aload_n 3, 1), (.iload 4, 2), (.iload 5, 2)] (pc' := 17) (L' := [some (.ref 328), some (.ref 32), some (.int (nI i)), some (.ref 34), some (.int (nI j)), some (.int (nI s))]) (S' := [.int (nI s), .int (nI j), .ref 34, .int (nI i), .ref 32]) rfl (by decide +kernel) rfl ?_
      refine Ev.callS0 mX0_fits [.ref 32, .int (nI i), .ref 34, .int (nI j), .int (nI s)] [] _ rfl lk_RX0_43 (by decide +kernel) rfl (Nat.le_of_ble_eq_true rfl) (c_X0_fits I J A hC hW s i j (by omega) (by omega) (by omega)) ?_
      rintro _ _ ⟨rfl, ⟨rfl, h17⟩ | ⟨rfl, h17⟩⟩
      · show Ev _ _ _ _ _ 20 [some (.ref 328), some (.ref 32), some (.int (nI i)), some (.ref 34), some (.int (nI j)), some (.int (nI s))] [.int (nI 1)] (zz_SH, I, J) _
        refine Ev.if_eq (off := 29) (tgt := 49) (by decide +kernel) (by decide) (fun h20 => absurd h20 (by decide)) (fun h20 => ?_)
        refine Ev.run [(.aload_n 0, 1), (.aload_n 1, 1), (.iload_n 2, 1), (.aload_n 3, 1), (.iload 4, 2), (.iload 5, 2)] (pc' := 31) (L' := [some (.ref 328), some (.ref 32), some (.int (nI i)), some (.ref 34), some (.int (nI j)), some (.int (nI s))]) (S' := [.int (nI s), .int (nI j), .ref 34, .int (nI i), .ref 32, .ref 328]) rfl (by decide +kernel) rfl ?_
        refine Ev.callV0 mX0_costWith [.ref 32, .int (nI i), .ref 34, .int (nI j), .int (nI s)] [] _ rfl lk_RX0_47 (by decide +kernel) (rfl) rfl rfl rfl (Nat.le_of_ble_eq_true rfl) (c_X0_costWith I J A hC hW s i j (by omega) (by omega) (by omega) h17 (hT _ _ h17.1 h17.2)) ?_
        rintro _ _ ⟨rfl, rfl⟩
        have q1 := stv_le hW h17
        have q2 := LT_b hW h17.1 h17.2
        show Ev _ _ _ _ _ 34 [some (.ref 328), some (.ref 32), some (.int (nI i)), some (.ref 34), some (.int (nI j)), some (.int (nI s))] [.int (nI (stv A s i j + (LT A (i + o1 s) (j + o2 s)).1))] (zz_SH, I, J) _
        refine Ev.run [(.aload_n 0, 1), (.getfield 11, 3), (.iload_n 2, 1)] (pc' := 39) (L' := [some (.ref 328), some (.ref 32), some (.int (nI i)), some (.ref 34), some (.int (nI j)), some (.int (nI s))]) (S' := [.int (nI i), .ref 329, .int (nI (stv A s i j + (LT A (i + o1 s) (j + o2 s)).1))]) rfl (by decide +kernel) rfl ?_
        refine Ev.aald i (by decide +kernel) (rfl) (by decide) (rfl) (by omega) (by first | decide | omega) (zz_b330 i (by omega)) ?_
        refine Ev.run [(.iload 4, 2)] (pc' := 42) (L' := [some (.ref 328), some (.ref 32), some (.int (nI i)), some (.ref 34), some (.int (nI j)), some (.int (nI s))]) (S' := [.int (nI j), .ref (330 + i), .int (nI (stv A s i j + (LT A (i + o1 s) (j + o2 s)).1))]) rfl (by decide +kernel) rfl ?_
        refine Ev.iald j (by decide +kernel) (zz_s330 i (by omega)) (rfl) (by omega) (by first | decide | omega) ?_
        try dsimp only
        rw [show I (330 + i) j = nI (LT A i j).1 from hT i j hi hj]
        refine Ev.icmp_ne (off := 6) (tgt := 49) (by decide +kernel) (by decide) (fun h43 => ?_) (fun h43 => ?_)
        · have h43 : ¬ (stv A s i j + (LT A (i + o1 s) (j + o2 s)).1) = ((LT A i j).1) := zz_bE_f (by omega) (by omega) h43
          refine Ev.run [(.iinc 5 1, 3)] (pc' := 52) (L' := [some (.ref 328), some (.ref 32), some (.int (nI i)), some (.ref 34), some (.int (nI j)), some (.int (nI s + 1))]) (S' := []) rfl (by decide +kernel) rfl ?_
          rw [nI_1 s]
          refine Ev.goto (off := (-49)) (tgt := 3) (by decide +kernel) (by decide) ?_
          exact ih (s + 1) (by omega) (by omega) (lt_s hno (fun q => h43 q.2))
        · have h43 : (stv A s i j + (LT A (i + o1 s) (j + o2 s)).1) = ((LT A i j).1) := zz_bE_t (by omega) (by omega) h43
          refine Ev.run [(.iload 5, 2)] (pc' := 48) (L' := [some (.ref 328), some (.ref 32), some (.int (nI i)), some (.ref 34), some (.int (nI j)), some (.int (nI s))]) (S' := [.int (nI s)]) rfl (by decide +kernel) rfl ?_
          exact Ev.iret rfl (by decide +kernel) (⟨by rw [fst6_eq hW hi hj hij ⟨h17, h43⟩ hno], rfl⟩)
      · show Ev _ _ _ _ _ 20 [some (.ref 328), some (.ref 32), some (.int (nI i)), some (.ref 34), some (.int (nI j)), some (.int (nI s))] [.int (nI 0)] (zz_SH, I, J) _
        refine Ev.if_eq (off := 29) (tgt := 49) (by decide +kernel) (by decide) (fun h20 => ?_) (fun h20 => absurd h20 (by decide))
        refine Ev.run [(.iinc 5 1, 3)] (pc' := 52) (L' := [some (.ref 328), some (.ref 32), some (.int (nI i)), some (.ref 34), some (.int (nI j)), some (.int (nI s + 1))]) (S' := []) rfl (by decide +kernel) rfl ?_
        rw [nI_1 s]
        refine Ev.goto (off := (-49)) (tgt := 3) (by decide +kernel) (by decide) ?_
        exact ih (s + 1) (by omega) (by omega) (lt_s hno (fun q => h17 q.1))

set_option maxRecDepth 100000 in
set_option maxHeartbeats 4000000 in
theorem c_X0_firstOfLeast_s {sc : Nat × (Nat → Int32)} {d : Nat} (I : Nat → Nat → Int32) (J : Nat → Nat → Int64) (A : zA) (hC : CR 3 I A) (hW : WF A) (i j : Nat) (hi : i ≤ aa A) (hj : j ≤ ab A) (hT : ∀ i' j', i' ≤ aa A → j' ≤ ab A → I (330 + i') j' = nI (LT A i' j').1) (hij : i < aa A ∨ j < ab A) : EvM sc (d + 3) 0 0 mX0_firstOfLeast [.ref 328, .ref 32, .int (nI i), .ref 34, .int (nI j)] (zz_SH, I, J) (zz_is (.int (nI (fst6 A i j))) (zz_SH, I, J)) := by
  refine EvM.of (by decide) rfl (Nat.le_of_ble_eq_true rfl) ?_
  show Ev _ _ _ _ _ 0 [some (.ref 328), some (.ref 32), some (.int (nI i)), some (.ref 34), some (.int (nI j)), none] [] (zz_SH, I, J) _
  refine Ev.run [(.iconst 0, 1), (.istore 5, 2)] (pc' := 3) (L' := [some (.ref 328), some (.ref 32), some (.int (nI i)), some (.ref 34), some (.int (nI j)), some (.int (nI 0))]) (S' := []) rfl (by decide +kernel) rfl ?_
  exact l_X0_fl I J A hC hW i j hi hj hT hij 7 0 (by omega) (by omega) (fun t ht => absurd ht (Nat.not_lt_zero t))

set_option maxRecDepth 100000 in
set_option maxHeartbeats 4000000 in
theorem l_X0_fe {sc : Nat × (Nat → Int32)} {d : Nat} (I : Nat → Nat → Int32) (J : Nat → Nat → Int64) (A : zA) (hC : CR 3 I A) (hW : WF A) (i j : Nat) (hi : i ≤ aa A) (hj : j ≤ ab A) (hT : ∀ i' j', i' ≤ aa A → j' ≤ ab A → I (330 + i') j' = nI (LT A i' j').1) (hij : ¬ (i < aa A ∨ j < ab A)) : ∀ (μ : Nat) (s : Nat), 6 - s < μ → (s ≤ 6) →  Ev sc (d + 3) 0 0 mX0_firstOfLeast 3 [some (.ref 328), some (.ref 32), some (.int (nI i)), some (.ref 34), some (.int (nI j)), some (.int (nI s))] [] (zz_SH, I, J) (zz_is (.int (-6)) (zz_SH, I, J)) := by
  intro μ
  induction μ with
  | zero => intro s hμ; exact absurd hμ (Nat.not_lt_zero _)
  | succ μ ih =>
    intro s hμ hs
    have w1 := hW.1.1
    have w2 := hW.1.2.1
    have l3 := hW.1.2.2
    have q3 := LT_b hW hi hj
    refine Ev.run [(.iload 5, 2), (.bipush 6, 2)] (pc' := 7) (L' := [some (.ref 328), some (.ref 32), some (.int (nI i)), some (.ref 34), some (.int (nI j)), some (.int (nI s))]) (S' := [.int (nI 6), .int (nI s)]) rfl (by decide +kernel) rfl ?_
    refine Ev.icmp_ge (off := 48) (tgt := 55) (by decide +kernel) (by decide) (fun h7 => ?_) (fun h7 => ?_)
    · have h7 : s ≥ 6 := zz_bG_t (by omega) (by omega) h7
      refine Ev.run [(.bipush (-6), 2)] (pc' := 57) (L' := [some (.ref 328), some (.ref 32), some (.int (nI i)), some (.ref 34), some (.int (nI j)), some (.int (nI s))]) (S' := [.int ((-6))]) rfl (by decide +kernel) rfl ?_
      exact Ev.iret rfl (by decide +kernel) (⟨rfl, rfl⟩)
    · have h7 : s < 6 := zz_bG_f (by omega) (by omega) h7
      refine Ev.run [(.aload_n 1, 1), (.iload_n 2, 1), (.aload_n 3, 1), (.iload 4, 2), (.iload 5, 2)] (pc' := 17) (L' := [some (.ref 328), some (.ref 32), some (.int (nI i)), some (.ref 34), some (.int (nI j)), some (.int (nI s))]) (S' := [.int (nI s), .int (nI j), .ref 34, .int (nI i), .ref 32]) rfl (by decide +kernel) rfl ?_
      refine Ev.callS0 mX0_fits [.ref 32, .int (nI i), .ref 34, .int (nI j), .int (nI s)] [] _ rfl lk_RX0_43 (by decide +kernel) rfl (Nat.le_of_ble_eq_true rfl) (c_X0_fits I J A hC hW s i j (by omega) (by omega) (by omega)) ?_
      rintro _ _ ⟨rfl, ⟨rfl, h17⟩ | ⟨rfl, h17⟩⟩
      · have := o_pos s; omega
      · show Ev _ _ _ _ _ 20 [some (.ref 328), some (.ref 32), some (.int (nI i)), some (.ref 34), some (.int (nI j)), some (.int (nI s))] [.int (nI 0)] (zz_SH, I, J) _
        refine Ev.if_eq (off := 29) (tgt := 49) (by decide +kernel) (by decide) (fun h20 => ?_) (fun h20 => absurd h20 (by decide))
        refine Ev.run [(.iinc 5 1, 3)] (pc' := 52) (L' := [some (.ref 328), some (.ref 32), some (.int (nI i)), some (.ref 34), some (.int (nI j)), some (.int (nI s + 1))]) (S' := []) rfl (by decide +kernel) rfl ?_
        rw [nI_1 s]
        refine Ev.goto (off := (-49)) (tgt := 3) (by decide +kernel) (by decide) ?_
        exact ih (s + 1) (by omega) (by omega)

set_option maxRecDepth 100000 in
set_option maxHeartbeats 4000000 in
theorem c_X0_firstOfLeast_e {sc : Nat × (Nat → Int32)} {d : Nat} (I : Nat → Nat → Int32) (J : Nat → Nat → Int64) (A : zA) (hC : CR 3 I A) (hW : WF A) (i j : Nat) (hi : i ≤ aa A) (hj : j ≤ ab A) (hT : ∀ i' j', i' ≤ aa A → j' ≤ ab A → I (330 + i') j' = nI (LT A i' j').1) (hij : ¬ (i < aa A ∨ j < ab A)) : EvM sc (d + 3) 0 0 mX0_firstOfLeast [.ref 328, .ref 32, .int (nI i), .ref 34, .int (nI j)] (zz_SH, I, J) (zz_is (.int (-6)) (zz_SH, I, J)) := by
  refine EvM.of (by decide) rfl (Nat.le_of_ble_eq_true rfl) ?_
  show Ev _ _ _ _ _ 0 [some (.ref 328), some (.ref 32), some (.int (nI i)), some (.ref 34), some (.int (nI j)), none] [] (zz_SH, I, J) _
  refine Ev.run [(.iconst 0, 1), (.istore 5, 2)] (pc' := 3) (L' := [some (.ref 328), some (.ref 32), some (.int (nI i)), some (.ref 34), some (.int (nI j)), some (.int (nI 0))]) (S' := []) rfl (by decide +kernel) rfl ?_
  exact l_X0_fe I J A hC hW i j hi hj hT hij 7 0 (by omega) (by omega)

set_option maxRecDepth 100000 in
set_option maxHeartbeats 4000000 in
theorem l_X0_lf {sc : Nat × (Nat → Int32)} {d : Nat} (I : Nat → Nat → Int32) (J : Nat → Nat → Int64) (A : zA) (hC : CR 3 I A) (hW : WF A) (i j : Nat) (hi : i ≤ aa A) (hj : j ≤ ab A) (hT : TBc A (fun i' j' => i < i' ∨ (i' = i ∧ j < j')) I J) : ∀ (μ : Nat) (s : Nat), 6 - s < μ → (s ≤ 6) →  Ev sc (d + 3) 0 0 mX0_layFrom 52 [some (.ref 328), some (.ref 32), some (.int (nI i)), some (.ref 34), some (.int (nI j)), none, some (.int (nI (mx1 (fd A (LT A) i j s).1))), some (.long ((fd A (LT A) i j s).2)), none, some (.int (nI s)), none, none, none] [] (zz_SH, I, J) (zz_iv (zz_SH, zz_up I (330 + i) j (nI (LT A i j).1), zz_upL J (344 + i) j (LT A i j).2)) := by
  intro μ
  induction μ with
  | zero => intro s hμ; exact absurd hμ (Nat.not_lt_zero _)
  | succ μ ih =>
    intro s hμ hs
    have w1 := hW.1.1
    have w2 := hW.1.2.1
    have l3 := hW.1.2.2
    have q0 := fd_le0 (A := A) (T := LT A) (i := i) (j := j) s
    have q9 := mx1_le q0
    have l1 := o1_le s
    have l2 := o2_le s
    refine Ev.run [(.iload 9, 2), (.bipush 6, 2)] (pc' := 56) (L' := [some (.ref 328), some (.ref 32), some (.int (nI i)), some (.ref 34), some (.int (nI j)), none, some (.int (nI (mx1 (fd A (LT A) i j s).1))), some (.long ((fd A (LT A) i j s).2)), none, some (.int (nI s)), none, none, none]) (S' := [.int (nI 6), .int (nI s)]) rfl (by decide +kernel) rfl ?_
    refine Ev.icmp_ge (off := 92) (tgt := 148) (by decide +kernel) (by decide) (fun h56 => ?_) (fun h56 => ?_)
    · have h56 : s ≥ 6 := zz_bG_t (by omega) (by omega) h56
      have hs6 : s = 6 := by omega
      rw [hs6, ← LT_rec hW i j, mx1_s (by have := LT_b hW hi hj; omega)]
      refine Ev.run [(.aload_n 0, 1), (.getfield 11, 3), (.iload_n 2, 1)] (pc' := 153) (L' := [some (.ref 328), some (.ref 32), some (.int (nI i)), some (.ref 34), some (.int (nI j)), none, some (.int (nI ((LT A i j).1))), some (.long ((LT A i j).2)), none, some (.int (nI 6)), none, none, none]) (S' := [.int (nI i), .ref 329]) rfl (by decide +kernel) rfl ?_
      refine Ev.aald i (by decide +kernel) (rfl) (by decide) (rfl) (by omega) (by first | decide | omega) (zz_b330 i (by omega)) ?_
      refine Ev.run [(.iload 4, 2), (.iload 6, 2)] (pc' := 158) (L' := [some (.ref 328), some (.ref 32), some (.int (nI i)), some (.ref 34), some (.int (nI j)), none, some (.int (nI ((LT A i j).1))), some (.long ((LT A i j).2)), none, some (.int (nI 6)), none, none, none]) (S' := [.int (nI ((LT A i j).1)), .int (nI j), .ref (330 + i)]) rfl (by decide +kernel) rfl ?_
      refine Ev.iast j (by decide +kernel) (zz_s330 i (by omega)) (rfl) (by omega) (by first | decide | omega) ?_
      dsimp only
      refine Ev.run [(.aload_n 0, 1), (.getfield 18, 3), (.iload_n 2, 1)] (pc' := 164) (L' := [some (.ref 328), some (.ref 32), some (.int (nI i)), some (.ref 34), some (.int (nI j)), none, some (.int (nI ((LT A i j).1))), some (.long ((LT A i j).2)), none, some (.int (nI 6)), none, none, none]) (S' := [.int (nI i), .ref 343]) rfl (by decide +kernel) rfl ?_
      refine Ev.aald i (by decide +kernel) (rfl) (by decide) (rfl) (by omega) (by first | decide | omega) (zz_b344 i (by omega)) ?_
      refine Ev.run [(.iload 4, 2), (.lload 7, 2)] (pc' := 169) (L' := [some (.ref 328), some (.ref 32), some (.int (nI i)), some (.ref 34), some (.int (nI j)), none, some (.int (nI ((LT A i j).1))), some (.long ((LT A i j).2)), none, some (.int (nI 6)), none, none, none]) (S' := [.long ((LT A i j).2), .int (nI j), .ref (344 + i)]) rfl (by decide +kernel) rfl ?_
      refine Ev.last j (by decide +kernel) (zz_s344 i (by omega)) (rfl) (by omega) (by first | decide | omega) ?_
      dsimp only
      exact Ev.vret rfl (by decide +kernel) (⟨rfl, rfl⟩)
    · have h56 : s < 6 := zz_bG_f (by omega) (by omega) h56
      refine Ev.run [(.aload_n 1, 1), (.iload_n 2, 1), (.aload_n 3, 1), (.iload 4, 2), (.iload 9, 2)] (pc' := 66) (L' := [some (.ref 328), some (.ref 32), some (.int (nI i)), some (.ref 34), some (.int (nI j)), none, some (.int (nI (mx1 (fd A (LT A) i j s).1))), some (.long ((fd A (LT A) i j s).2)), none, some (.int (nI s)), none, none, none]) (S' := [.int (nI s), .int (nI j), .ref 34, .int (nI i), .ref 32]) rfl (by decide +kernel) rfl ?_
      refine Ev.callS0 mX0_fits [.ref 32, .int (nI i), .ref 34, .int (nI j), .int (nI s)] [] _ rfl lk_RX0_43 (by decide +kernel) rfl (Nat.le_of_ble_eq_true rfl) (c_X0_fits I J A hC hW s i j (by omega) (by omega) (by omega)) ?_
      rintro _ _ ⟨rfl, ⟨rfl, h66⟩ | ⟨rfl, h66⟩⟩
      · show Ev _ _ _ _ _ 69 [some (.ref 328), some (.ref 32), some (.int (nI i)), some (.ref 34), some (.int (nI j)), none, some (.int (nI (mx1 (fd A (LT A) i j s).1))), some (.long ((fd A (LT A) i j s).2)), none, some (.int (nI s)), none, none, none] [.int (nI 1)] (zz_SH, I, J) _
        have hto := hT (i + o1 s) (j + o2 s) h66.1 h66.2 (by have := o_pos s; omega)
        refine Ev.if_eq (off := 73) (tgt := 142) (by decide +kernel) (by decide) (fun h69 => absurd h69 (by decide)) (fun h69 => ?_)
        refine Ev.run [(.aload_n 0, 1), (.aload_n 1, 1), (.iload_n 2, 1), (.aload_n 3, 1), (.iload 4, 2), (.iload 9, 2)] (pc' := 80) (L' := [some (.ref 328), some (.ref 32), some (.int (nI i)), some (.ref 34), some (.int (nI j)), none, some (.int (nI (mx1 (fd A (LT A) i j s).1))), some (.long ((fd A (LT A) i j s).2)), none, some (.int (nI s)), none, none, none]) (S' := [.int (nI s), .int (nI j), .ref 34, .int (nI i), .ref 32, .ref 328]) rfl (by decide +kernel) rfl ?_
        refine Ev.callV0 mX0_costWith [.ref 32, .int (nI i), .ref 34, .int (nI j), .int (nI s)] [] _ rfl lk_RX0_47 (by decide +kernel) (rfl) rfl rfl rfl (Nat.le_of_ble_eq_true rfl) (c_X0_costWith I J A hC hW s i j (by omega) (by omega) (by omega) h66 hto.1) ?_
        rintro _ _ ⟨rfl, rfl⟩
        have q1 := stv_le hW h66
        have q2 := LT_b hW h66.1 h66.2
        show Ev _ _ _ _ _ 83 [some (.ref 328), some (.ref 32), some (.int (nI i)), some (.ref 34), some (.int (nI j)), none, some (.int (nI (mx1 (fd A (LT A) i j s).1))), some (.long ((fd A (LT A) i j s).2)), none, some (.int (nI s)), none, none, none] [.int (nI (stv A s i j + (LT A (i + o1 s) (j + o2 s)).1))] (zz_SH, I, J) _
        refine Ev.run [(.istore 10, 2), (.aload_n 0, 1), (.getfield 18, 3), (.iload_n 2, 1)] (pc' := 90) (L' := [some (.ref 328), some (.ref 32), some (.int (nI i)), some (.ref 34), some (.int (nI j)), none, some (.int (nI (mx1 (fd A (LT A) i j s).1))), some (.long ((fd A (LT A) i j s).2)), none, some (.int (nI s)), some (.int (nI (stv A s i j + (LT A (i + o1 s) (j + o2 s)).1))), none, none]) (S' := [.int (nI i), .ref 343]) rfl (by decide +kernel) rfl ?_
        refine Ev.gets (idx := 51) (i0 := 1) (by decide +kernel) (by decide) (by decide) (by decide +kernel) ?_
        refine Ev.run [(.iload 9, 2)] (pc' := 95) (L' := [some (.ref 328), some (.ref 32), some (.int (nI i)), some (.ref 34), some (.int (nI j)), none, some (.int (nI (mx1 (fd A (LT A) i j s).1))), some (.long ((fd A (LT A) i j s).2)), none, some (.int (nI s)), some (.int (nI (stv A s i j + (LT A (i + o1 s) (j + o2 s)).1))), none, none]) (S' := [.int (nI s), .ref 100001, .int (nI i), .ref 343]) rfl (by decide +kernel) rfl ?_
        refine Ev.xldN (i0 := 1) s (by decide +kernel) (by decide) (rfl) (show s < 6 by omega) (show 6 < 2 ^ 31 by decide) ?_
        try dsimp only
        rw [zz_of1 (by omega)]
        refine Ev.run [(.iadd, 1)] (pc' := 97) (L' := [some (.ref 328), some (.ref 32), some (.int (nI i)), some (.ref 34), some (.int (nI j)), none, some (.int (nI (mx1 (fd A (LT A) i j s).1))), some (.long ((fd A (LT A) i j s).2)), none, some (.int (nI s)), some (.int (nI (stv A s i j + (LT A (i + o1 s) (j + o2 s)).1))), none, none]) (S' := [.int (nI i + nI (o1 s)), .ref 343]) rfl (by decide +kernel) rfl ?_
        rw [nI_add i (o1 s)]
        refine Ev.aald (i + (o1 s)) (by decide +kernel) (rfl) (by decide) (rfl) (by omega) (by first | decide | omega) (zz_b344 (i + (o1 s)) (by omega)) ?_
        refine Ev.run [(.iload 4, 2)] (pc' := 100) (L' := [some (.ref 328), some (.ref 32), some (.int (nI i)), some (.ref 34), some (.int (nI j)), none, some (.int (nI (mx1 (fd A (LT A) i j s).1))), some (.long ((fd A (LT A) i j s).2)), none, some (.int (nI s)), some (.int (nI (stv A s i j + (LT A (i + o1 s) (j + o2 s)).1))), none, none]) (S' := [.int (nI j), .ref (344 + (i + (o1 s)))]) rfl (by decide +kernel) rfl ?_
        refine Ev.gets (idx := 55) (i0 := 2) (by decide +kernel) (by decide) (by decide) (by decide +kernel) ?_
        refine Ev.run [(.iload 9, 2)] (pc' := 105) (L' := [some (.ref 328), some (.ref 32), some (.int (nI i)), some (.ref 34), some (.int (nI j)), none, some (.int (nI (mx1 (fd A (LT A) i j s).1))), some (.long ((fd A (LT A) i j s).2)), none, some (.int (nI s)), some (.int (nI (stv A s i j + (LT A (i + o1 s) (j + o2 s)).1))), none, none]) (S' := [.int (nI s), .ref 100002, .int (nI j), .ref (344 + (i + (o1 s)))]) rfl (by decide +kernel) rfl ?_
        refine Ev.xldN (i0 := 2) s (by decide +kernel) (by decide) (rfl) (show s < 6 by omega) (show 6 < 2 ^ 31 by decide) ?_
        try dsimp only
        rw [zz_of2 (by omega)]
        refine Ev.run [(.iadd, 1)] (pc' := 107) (L' := [some (.ref 328), some (.ref 32), some (.int (nI i)), some (.ref 34), some (.int (nI j)), none, some (.int (nI (mx1 (fd A (LT A) i j s).1))), some (.long ((fd A (LT A) i j s).2)), none, some (.int (nI s)), some (.int (nI (stv A s i j + (LT A (i + o1 s) (j + o2 s)).1))), none, none]) (S' := [.int (nI j + nI (o2 s)), .ref (344 + (i + (o1 s)))]) rfl (by decide +kernel) rfl ?_
        rw [nI_add j (o2 s)]
        refine Ev.lald (j + (o2 s)) (by decide +kernel) (zz_s344 (i + (o1 s)) (by omega)) (rfl) (by omega) (by first | decide | omega) ?_
        try dsimp only
        rw [hto.2]
        refine Ev.run [(.lstore 11, 2), (.iload 10, 2), (.iload 6, 2)] (pc' := 114) (L' := [some (.ref 328), some (.ref 32), some (.int (nI i)), some (.ref 34), some (.int (nI j)), none, some (.int (nI (mx1 (fd A (LT A) i j s).1))), some (.long ((fd A (LT A) i j s).2)), none, some (.int (nI s)), some (.int (nI (stv A s i j + (LT A (i + o1 s) (j + o2 s)).1))), some (.long ((LT A (i + o1 s) (j + o2 s)).2)), none]) (S' := [.int (nI (mx1 (fd A (LT A) i j s).1)), .int (nI (stv A s i j + (LT A (i + o1 s) (j + o2 s)).1))]) rfl (by decide +kernel) rfl ?_
        refine Ev.icmp_ge (off := 14) (tgt := 128) (by decide +kernel) (by decide) (fun h114 => ?_) (fun h114 => ?_)
        · have h114 : (stv A s i j + (LT A (i + o1 s) (j + o2 s)).1) ≥ (mx1 (fd A (LT A) i j s).1) := zz_bG_t (by omega) (by omega) h114
          refine Ev.run [(.iload 10, 2), (.iload 6, 2)] (pc' := 132) (L' := [some (.ref 328), some (.ref 32), some (.int (nI i)), some (.ref 34), some (.int (nI j)), none, some (.int (nI (mx1 (fd A (LT A) i j s).1))), some (.long ((fd A (LT A) i j s).2)), none, some (.int (nI s)), some (.int (nI (stv A s i j + (LT A (i + o1 s) (j + o2 s)).1))), some (.long ((LT A (i + o1 s) (j + o2 s)).2)), none]) (S' := [.int (nI (mx1 (fd A (LT A) i j s).1)), .int (nI (stv A s i j + (LT A (i + o1 s) (j + o2 s)).1))]) rfl (by decide +kernel) rfl ?_
          refine Ev.icmp_ne (off := 10) (tgt := 142) (by decide +kernel) (by decide) (fun h132 => ?_) (fun h132 => ?_)
          · have h132 : ¬ (stv A s i j + (LT A (i + o1 s) (j + o2 s)).1) = (mx1 (fd A (LT A) i j s).1) := zz_bE_f (by omega) (by omega) h132
            refine Ev.run [(.iinc 9 1, 3)] (pc' := 145) (L' := [some (.ref 328), some (.ref 32), some (.int (nI i)), some (.ref 34), some (.int (nI j)), none, some (.int (nI (mx1 (fd A (LT A) i j s).1))), some (.long ((fd A (LT A) i j s).2)), none, some (.int (nI s + 1)), some (.int (nI (stv A s i j + (LT A (i + o1 s) (j + o2 s)).1))), some (.long ((LT A (i + o1 s) (j + o2 s)).2)), none]) (S' := []) rfl (by decide +kernel) rfl ?_
            rw [nI_1 s]
            refine Ev.goto (off := (-93)) (tgt := 52) (by decide +kernel) (by decide) ?_
            refine Ev.weakL (L' := [some (.ref 328), some (.ref 32), some (.int (nI i)), some (.ref 34), some (.int (nI j)), none, some (.int (nI (mx1 (fd A (LT A) i j s).1))), some (.long ((fd A (LT A) i j s).2)), none, some (.int (nI (s + 1))), none, none, none]) ⟨rfl, rfl, rfl, rfl, rfl, rfl, rfl, rfl, trivial⟩ ?_
            have e9 := fd_gt (T := LT A) h66 (by have q8 : ¬ stv A s i j + (LT A (i + o1 s) (j + o2 s)).1 = (fd A (LT A) i j s).1 := fun q => h132 ((mx1_eq (by omega)).mpr q); have q7 : ¬ stv A s i j + (LT A (i + o1 s) (j + o2 s)).1 < (fd A (LT A) i j s).1 := fun q => absurd ((mx1_lt (by omega)).mpr q) (by omega); omega)
            rw [← e9]
            exact ih (s + 1) (by omega) (by omega)
          · have h132 : (stv A s i j + (LT A (i + o1 s) (j + o2 s)).1) = (mx1 (fd A (LT A) i j s).1) := zz_bE_t (by omega) (by omega) h132
            refine Ev.run [(.lload 7, 2), (.lload 11, 2), (.ladd, 1), (.lstore 7, 2), (.iinc 9 1, 3)] (pc' := 145) (L' := [some (.ref 328), some (.ref 32), some (.int (nI i)), some (.ref 34), some (.int (nI j)), none, some (.int (nI (mx1 (fd A (LT A) i j s).1))), some (.long (((fd A (LT A) i j s).2) + ((LT A (i + o1 s) (j + o2 s)).2))), none, some (.int (nI s + 1)), some (.int (nI (stv A s i j + (LT A (i + o1 s) (j + o2 s)).1))), some (.long ((LT A (i + o1 s) (j + o2 s)).2)), none]) (S' := []) rfl (by decide +kernel) rfl ?_
            rw [nI_1 s]
            refine Ev.goto (off := (-93)) (tgt := 52) (by decide +kernel) (by decide) ?_
            refine Ev.weakL (L' := [some (.ref 328), some (.ref 32), some (.int (nI i)), some (.ref 34), some (.int (nI j)), none, some (.int (nI (mx1 (fd A (LT A) i j s).1))), some (.long ((fd A (LT A) i j s).2 + (LT A (i + o1 s) (j + o2 s)).2)), none, some (.int (nI (s + 1))), none, none, none]) ⟨rfl, rfl, rfl, rfl, rfl, rfl, rfl, rfl, trivial⟩ ?_
            have e9 := fd_eq (T := LT A) h66 ((mx1_eq (by omega)).mp h132)
            have h9 := ih (s + 1) (by omega) (by omega)
            rw [e9] at h9
            exact h9
        · have h114 : (stv A s i j + (LT A (i + o1 s) (j + o2 s)).1) < (mx1 (fd A (LT A) i j s).1) := zz_bG_f (by omega) (by omega) h114
          refine Ev.run [(.iload 10, 2), (.istore 6, 2), (.lload 11, 2), (.lstore 7, 2)] (pc' := 125) (L' := [some (.ref 328), some (.ref 32), some (.int (nI i)), some (.ref 34), some (.int (nI j)), none, some (.int (nI (stv A s i j + (LT A (i + o1 s) (j + o2 s)).1))), some (.long ((LT A (i + o1 s) (j + o2 s)).2)), none, some (.int (nI s)), some (.int (nI (stv A s i j + (LT A (i + o1 s) (j + o2 s)).1))), some (.long ((LT A (i + o1 s) (j + o2 s)).2)), none]) (S' := []) rfl (by decide +kernel) rfl ?_
          refine Ev.goto (off := 17) (tgt := 142) (by decide +kernel) (by decide) ?_
          refine Ev.run [(.iinc 9 1, 3)] (pc' := 145) (L' := [some (.ref 328), some (.ref 32), some (.int (nI i)), some (.ref 34), some (.int (nI j)), none, some (.int (nI (stv A s i j + (LT A (i + o1 s) (j + o2 s)).1))), some (.long ((LT A (i + o1 s) (j + o2 s)).2)), none, some (.int (nI s + 1)), some (.int (nI (stv A s i j + (LT A (i + o1 s) (j + o2 s)).1))), some (.long ((LT A (i + o1 s) (j + o2 s)).2)), none]) (S' := []) rfl (by decide +kernel) rfl ?_
          rw [nI_1 s]
          refine Ev.goto (off := (-93)) (tgt := 52) (by decide +kernel) (by decide) ?_
          refine Ev.weakL (L' := [some (.ref 328), some (.ref 32), some (.int (nI i)), some (.ref 34), some (.int (nI j)), none, some (.int (nI (stv A s i j + (LT A (i + o1 s) (j + o2 s)).1))), some (.long ((LT A (i + o1 s) (j + o2 s)).2)), none, some (.int (nI (s + 1))), none, none, none]) ⟨rfl, rfl, rfl, rfl, rfl, rfl, rfl, rfl, trivial⟩ ?_
          have e9 := fd_lt (T := LT A) h66 ((mx1_lt (by omega)).mp h114)
          have h9 := ih (s + 1) (by omega) (by omega)
          rw [e9] at h9
          dsimp only at h9
          rw [mx1_s (v := stv A s i j + (LT A (i + o1 s) (j + o2 s)).1) (by omega)] at h9
          exact h9
      · show Ev _ _ _ _ _ 69 [some (.ref 328), some (.ref 32), some (.int (nI i)), some (.ref 34), some (.int (nI j)), none, some (.int (nI (mx1 (fd A (LT A) i j s).1))), some (.long ((fd A (LT A) i j s).2)), none, some (.int (nI s)), none, none, none] [.int (nI 0)] (zz_SH, I, J) _
        refine Ev.if_eq (off := 73) (tgt := 142) (by decide +kernel) (by decide) (fun h69 => ?_) (fun h69 => absurd h69 (by decide))
        refine Ev.run [(.iinc 9 1, 3)] (pc' := 145) (L' := [some (.ref 328), some (.ref 32), some (.int (nI i)), some (.ref 34), some (.int (nI j)), none, some (.int (nI (mx1 (fd A (LT A) i j s).1))), some (.long ((fd A (LT A) i j s).2)), none, some (.int (nI s + 1)), none, none, none]) (S' := []) rfl (by decide +kernel) rfl ?_
        rw [nI_1 s]
        refine Ev.goto (off := (-93)) (tgt := 52) (by decide +kernel) (by decide) ?_
        have e9 := fd_n (T := LT A) h66
        rw [← e9]
        exact ih (s + 1) (by omega) (by omega)

set_option maxRecDepth 100000 in
set_option maxHeartbeats 4000000 in
theorem c_X0_layFrom {sc : Nat × (Nat → Int32)} {d : Nat} (I : Nat → Nat → Int32) (J : Nat → Nat → Int64) (A : zA) (hC : CR 3 I A) (hW : WF A) (i j : Nat) (hi : i ≤ aa A) (hj : j ≤ ab A) (hT : TBc A (fun i' j' => i < i' ∨ (i' = i ∧ j < j')) I J) : EvM sc (d + 3) 0 0 mX0_layFrom [.ref 328, .ref 32, .int (nI i), .ref 34, .int (nI j)] (zz_SH, I, J) (zz_iv (zz_SH, zz_up I (330 + i) j (nI (LT A i j).1), zz_upL J (344 + i) j (LT A i j).2)) := by
  have w1 := hW.1.1
  have w2 := hW.1.2.1
  have l3 := hW.1.2.2
  refine EvM.of (by decide) rfl (Nat.le_of_ble_eq_true rfl) ?_
  show Ev _ _ _ _ _ 0 [some (.ref 328), some (.ref 32), some (.int (nI i)), some (.ref 34), some (.int (nI j)), none, none, none, none, none, none, none, none] [] (zz_SH, I, J) _
  refine Ev.run [(.iload_n 2, 1), (.aload_n 1, 1), (.getfield 30, 3)] (pc' := 5) (L' := [some (.ref 328), some (.ref 32), some (.int (nI i)), some (.ref 34), some (.int (nI j)), none, none, none, none, none, none, none, none]) (S' := [.int (I 32 1), .int (nI i)]) rfl (by decide +kernel) rfl ?_
  rw [show I 32 1 = nI (aa A) from hC.1.2.2.2.2.2.1.1]
  refine Ev.icmp_ne (off := 16) (tgt := 21) (by decide +kernel) (by decide) (fun h5 => ?_) (fun h5 => ?_)
  · have h5 : ¬ i = (aa A) := zz_bE_f (by omega) (by omega) h5
    refine Ev.run [(.iconst 0, 1), (.istore 5, 2), (.iload 5, 2)] (pc' := 26) (L' := [some (.ref 328), some (.ref 32), some (.int (nI i)), some (.ref 34), some (.int (nI j)), some (.int (nI 0)), none, none, none, none, none, none, none]) (S' := [.int (nI 0)]) rfl (by decide +kernel) rfl ?_
    refine Ev.if_eq (off := 7) (tgt := 33) (by decide +kernel) (by decide) (fun h26 => ?_) (fun h26 => absurd h26 (by decide))
    refine Ev.ldc (idx := 42) (v := 1000000) (by decide +kernel) (by decide +kernel) ?_
    refine Ev.run [(.istore 6, 2), (.iload 5, 2)] (pc' := 39) (L' := [some (.ref 328), some (.ref 32), some (.int (nI i)), some (.ref 34), some (.int (nI j)), some (.int (nI 0)), some (.int (nI 1000000)), none, none, none, none, none, none]) (S' := [.int (nI 0)]) rfl (by decide +kernel) rfl ?_
    refine Ev.if_eq (off := 7) (tgt := 46) (by decide +kernel) (by decide) (fun h39 => ?_) (fun h39 => absurd h39 (by decide))
    refine Ev.run [(.lconst 0, 1), (.lstore 7, 2), (.iconst 0, 1), (.istore 9, 2)] (pc' := 52) (L' := [some (.ref 328), some (.ref 32), some (.int (nI i)), some (.ref 34), some (.int (nI j)), some (.int (nI 0)), some (.int (nI 1000000)), some (.long 0), none, some (.int (nI 0)), none, none, none]) (S' := []) rfl (by decide +kernel) rfl ?_
    refine Ev.weakL (L' := [some (.ref 328), some (.ref 32), some (.int (nI i)), some (.ref 34), some (.int (nI j)), none, some (.int (nI 1000000)), some (.long 0), none, some (.int (nI 0)), none, none, none]) ⟨rfl, rfl, rfl, rfl, rfl, rfl, rfl, rfl, trivial⟩ ?_
    have e0 : fd A (LT A) i j 0 = (1000000, 0) := by rw [fd, if_neg (by omega)]
    have h9 := l_X0_lf (sc := sc) (d := d) I J A hC hW i j hi hj hT 7 0 (by omega) (by omega)
    rw [e0] at h9
    exact h9
  · have h5 : i = (aa A) := zz_bE_t (by omega) (by omega) h5
    refine Ev.run [(.iload 4, 2), (.aload_n 3, 1), (.getfield 30, 3)] (pc' := 14) (L' := [some (.ref 328), some (.ref 32), some (.int (nI i)), some (.ref 34), some (.int (nI j)), none, none, none, none, none, none, none, none]) (S' := [.int (I 34 1), .int (nI j)]) rfl (by decide +kernel) rfl ?_
    rw [show I 34 1 = nI (ab A) from hC.1.2.2.2.2.2.2.1]
    refine Ev.icmp_ne (off := 7) (tgt := 21) (by decide +kernel) (by decide) (fun h14 => ?_) (fun h14 => ?_)
    · have h14 : ¬ j = (ab A) := zz_bE_f (by omega) (by omega) h14
      refine Ev.run [(.iconst 0, 1), (.istore 5, 2), (.iload 5, 2)] (pc' := 26) (L' := [some (.ref 328), some (.ref 32), some (.int (nI i)), some (.ref 34), some (.int (nI j)), some (.int (nI 0)), none, none, none, none, none, none, none]) (S' := [.int (nI 0)]) rfl (by decide +kernel) rfl ?_
      refine Ev.if_eq (off := 7) (tgt := 33) (by decide +kernel) (by decide) (fun h26 => ?_) (fun h26 => absurd h26 (by decide))
      refine Ev.ldc (idx := 42) (v := 1000000) (by decide +kernel) (by decide +kernel) ?_
      refine Ev.run [(.istore 6, 2), (.iload 5, 2)] (pc' := 39) (L' := [some (.ref 328), some (.ref 32), some (.int (nI i)), some (.ref 34), some (.int (nI j)), some (.int (nI 0)), some (.int (nI 1000000)), none, none, none, none, none, none]) (S' := [.int (nI 0)]) rfl (by decide +kernel) rfl ?_
      refine Ev.if_eq (off := 7) (tgt := 46) (by decide +kernel) (by decide) (fun h39 => ?_) (fun h39 => absurd h39 (by decide))
      refine Ev.run [(.lconst 0, 1), (.lstore 7, 2), (.iconst 0, 1), (.istore 9, 2)] (pc' := 52) (L' := [some (.ref 328), some (.ref 32), some (.int (nI i)), some (.ref 34), some (.int (nI j)), some (.int (nI 0)), some (.int (nI 1000000)), some (.long 0), none, some (.int (nI 0)), none, none, none]) (S' := []) rfl (by decide +kernel) rfl ?_
      refine Ev.weakL (L' := [some (.ref 328), some (.ref 32), some (.int (nI i)), some (.ref 34), some (.int (nI j)), none, some (.int (nI 1000000)), some (.long 0), none, some (.int (nI 0)), none, none, none]) ⟨rfl, rfl, rfl, rfl, rfl, rfl, rfl, rfl, trivial⟩ ?_
      have e0 : fd A (LT A) i j 0 = (1000000, 0) := by rw [fd, if_neg (by omega)]
      have h9 := l_X0_lf (sc := sc) (d := d) I J A hC hW i j hi hj hT 7 0 (by omega) (by omega)
      rw [e0] at h9
      exact h9
    · have h14 : j = (ab A) := zz_bE_t (by omega) (by omega) h14
      refine Ev.run [(.iconst 1, 1)] (pc' := 18) (L' := [some (.ref 328), some (.ref 32), some (.int (nI i)), some (.ref 34), some (.int (nI j)), none, none, none, none, none, none, none, none]) (S' := [.int (nI 1)]) rfl (by decide +kernel) rfl ?_
      refine Ev.goto (off := 4) (tgt := 22) (by decide +kernel) (by decide) ?_
      refine Ev.run [(.istore 5, 2), (.iload 5, 2)] (pc' := 26) (L' := [some (.ref 328), some (.ref 32), some (.int (nI i)), some (.ref 34), some (.int (nI j)), some (.int (nI 1)), none, none, none, none, none, none, none]) (S' := [.int (nI 1)]) rfl (by decide +kernel) rfl ?_
      refine Ev.if_eq (off := 7) (tgt := 33) (by decide +kernel) (by decide) (fun h26 => absurd h26 (by decide)) (fun h26 => ?_)
      refine Ev.run [(.iconst 0, 1)] (pc' := 30) (L' := [some (.ref 328), some (.ref 32), some (.int (nI i)), some (.ref 34), some (.int (nI j)), some (.int (nI 1)), none, none, none, none, none, none, none]) (S' := [.int (nI 0)]) rfl (by decide +kernel) rfl ?_
      refine Ev.goto (off := 5) (tgt := 35) (by decide +kernel) (by decide) ?_
      refine Ev.run [(.istore 6, 2), (.iload 5, 2)] (pc' := 39) (L' := [some (.ref 328), some (.ref 32), some (.int (nI i)), some (.ref 34), some (.int (nI j)), some (.int (nI 1)), some (.int (nI 0)), none, none, none, none, none, none]) (S' := [.int (nI 1)]) rfl (by decide +kernel) rfl ?_
      refine Ev.if_eq (off := 7) (tgt := 46) (by decide +kernel) (by decide) (fun h39 => absurd h39 (by decide)) (fun h39 => ?_)
      refine Ev.run [(.lconst 1, 1)] (pc' := 43) (L' := [some (.ref 328), some (.ref 32), some (.int (nI i)), some (.ref 34), some (.int (nI j)), some (.int (nI 1)), some (.int (nI 0)), none, none, none, none, none, none]) (S' := [.long 1]) rfl (by decide +kernel) rfl ?_
      refine Ev.goto (off := 4) (tgt := 47) (by decide +kernel) (by decide) ?_
      refine Ev.run [(.lstore 7, 2), (.iconst 0, 1), (.istore 9, 2)] (pc' := 52) (L' := [some (.ref 328), some (.ref 32), some (.int (nI i)), some (.ref 34), some (.int (nI j)), some (.int (nI 1)), some (.int (nI 0)), some (.long 1), none, some (.int (nI 0)), none, none, none]) (S' := []) rfl (by decide +kernel) rfl ?_
      refine Ev.weakL (L' := [some (.ref 328), some (.ref 32), some (.int (nI i)), some (.ref 34), some (.int (nI j)), none, some (.int (nI 0)), some (.long 1), none, some (.int (nI 0)), none, none, none]) ⟨rfl, rfl, rfl, rfl, rfl, rfl, rfl, rfl, trivial⟩ ?_
      have e0 : fd A (LT A) i j 0 = (0, 1) := by rw [fd, if_pos ⟨by omega, by omega⟩]
      have h9 := l_X0_lf (sc := sc) (d := d) I J A hC hW i j hi hj hT 7 0 (by omega) (by omega)
      rw [e0] at h9
      exact h9
