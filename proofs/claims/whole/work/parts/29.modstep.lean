/-! ===== the model: laying ===== -/
theorem zz_ss (a b c : Nat) : nI a - nI b - nI c = nI a - nI (b + c) := by
  rw [← nI_add, Int32.sub_sub]
theorem zz_ge0 {a b : Nat} (ha : a < 2 ^ 30) (hb : b < 2 ^ 30) (h : 0 ≤ nI a - nI b) : b ≤ a := by
  rcases Nat.lt_or_ge a b with q | q
  · exact absurd h (Int32.not_le.mpr (pk_sneg hb q))
  · exact q
theorem zz_lt0 {a b : Nat} (ha : a < 2 ^ 30) (hb : b < 2 ^ 30) (h : ¬ 0 ≤ nI a - nI b) : a < b := by
  rcases Nat.lt_or_ge a b with q | q
  · exact q
  · exfalso
    apply h
    rw [pk_sub q]
    exact nI_pos' (by omega)
theorem zz_negs {a b : Nat} : -(nI a - nI b) = nI b - nI a := Int32.neg_sub

set_option maxRecDepth 100000 in
set_option maxHeartbeats 4000000 in
theorem c_X7_ofOne {sc : Nat × (Nat → Int32)} {d : Nat} (I : Nat → Nat → Int32) (J : Nat → Nat → Int64) (s : Nat) (hs : s < 1000) : EvM sc (d) 0 0 mX7_ofOne [.int (nI s)] (zz_SH, I, J) (zz_is (.int (nI (o1 s))) (zz_SH, I, J)) := by
  refine EvM.of (by decide) rfl (Nat.le_of_ble_eq_true rfl) ?_
  show Ev _ _ _ _ _ 0 [some (.int (nI s))] [] (zz_SH, I, J) _
  refine Ev.run [(.iload_n 0, 1), (.iconst 2, 1)] (pc' := 2) (L' := [some (.int (nI s))]) (S' := [.int (nI 2), .int (nI s)]) rfl (by decide +kernel) rfl ?_
  refine Ev.icmp_ne (off := 7) (tgt := 9) (by decide +kernel) (by decide) (fun h2 => ?_) (fun h2 => ?_)
  · have h2 : ¬ s = 2 := zz_bE_f (by omega) (by omega) h2
    refine Ev.run [(.iload_n 0, 1), (.iconst 3, 1)] (pc' := 11) (L' := [some (.int (nI s))]) (S' := [.int (nI 3), .int (nI s)]) rfl (by decide +kernel) rfl ?_
    refine Ev.icmp_eq (off := 8) (tgt := 19) (by decide +kernel) (by decide) (fun h11 => ?_) (fun h11 => ?_)
    · have h11 : s = 3 := zz_bE_t (by omega) (by omega) h11
      refine Ev.run [(.iconst 2, 1)] (pc' := 20) (L' := [some (.int (nI s))]) (S' := [.int (nI 2)]) rfl (by decide +kernel) rfl ?_
      refine Ev.goto (off := 4) (tgt := 24) (by decide +kernel) (by decide) ?_
      exact Ev.iret rfl (by decide +kernel) (⟨by rw [o1, if_neg h2, if_pos (Or.inl h11)], rfl⟩)
    · have h11 : ¬ s = 3 := zz_bE_f (by omega) (by omega) h11
      refine Ev.run [(.iload_n 0, 1), (.iconst 5, 1)] (pc' := 16) (L' := [some (.int (nI s))]) (S' := [.int (nI 5), .int (nI s)]) rfl (by decide +kernel) rfl ?_
      refine Ev.icmp_ne (off := 7) (tgt := 23) (by decide +kernel) (by decide) (fun h16 => ?_) (fun h16 => ?_)
      · have h16 : ¬ s = 5 := zz_bE_f (by omega) (by omega) h16
        refine Ev.run [(.iconst 1, 1)] (pc' := 24) (L' := [some (.int (nI s))]) (S' := [.int (nI 1)]) rfl (by decide +kernel) rfl ?_
        exact Ev.iret rfl (by decide +kernel) (⟨by rw [o1, if_neg h2, if_neg (by omega)], rfl⟩)
      · have h16 : s = 5 := zz_bE_t (by omega) (by omega) h16
        refine Ev.run [(.iconst 2, 1)] (pc' := 20) (L' := [some (.int (nI s))]) (S' := [.int (nI 2)]) rfl (by decide +kernel) rfl ?_
        refine Ev.goto (off := 4) (tgt := 24) (by decide +kernel) (by decide) ?_
        exact Ev.iret rfl (by decide +kernel) (⟨by rw [o1, if_neg h2, if_pos (Or.inr h16)], rfl⟩)
  · have h2 : s = 2 := zz_bE_t (by omega) (by omega) h2
    refine Ev.run [(.iconst 0, 1)] (pc' := 6) (L' := [some (.int (nI s))]) (S' := [.int (nI 0)]) rfl (by decide +kernel) rfl ?_
    refine Ev.goto (off := 18) (tgt := 24) (by decide +kernel) (by decide) ?_
    exact Ev.iret rfl (by decide +kernel) (⟨by rw [o1, if_pos h2], rfl⟩)

set_option maxRecDepth 100000 in
set_option maxHeartbeats 4000000 in
theorem c_X7_ofOther {sc : Nat × (Nat → Int32)} {d : Nat} (I : Nat → Nat → Int32) (J : Nat → Nat → Int64) (s : Nat) (hs : s < 1000) : EvM sc (d) 0 0 mX7_ofOther [.int (nI s)] (zz_SH, I, J) (zz_is (.int (nI (o2 s))) (zz_SH, I, J)) := by
  refine EvM.of (by decide) rfl (Nat.le_of_ble_eq_true rfl) ?_
  show Ev _ _ _ _ _ 0 [some (.int (nI s))] [] (zz_SH, I, J) _
  refine Ev.run [(.iload_n 0, 1), (.iconst 1, 1)] (pc' := 2) (L' := [some (.int (nI s))]) (S' := [.int (nI 1), .int (nI s)]) rfl (by decide +kernel) rfl ?_
  refine Ev.icmp_ne (off := 7) (tgt := 9) (by decide +kernel) (by decide) (fun h2 => ?_) (fun h2 => ?_)
  · have h2 : ¬ s = 1 := zz_bE_f (by omega) (by omega) h2
    refine Ev.run [(.iload_n 0, 1), (.iconst 4, 1)] (pc' := 11) (L' := [some (.int (nI s))]) (S' := [.int (nI 4), .int (nI s)]) rfl (by decide +kernel) rfl ?_
    refine Ev.icmp_eq (off := 8) (tgt := 19) (by decide +kernel) (by decide) (fun h11 => ?_) (fun h11 => ?_)
    · have h11 : s = 4 := zz_bE_t (by omega) (by omega) h11
      refine Ev.run [(.iconst 2, 1)] (pc' := 20) (L' := [some (.int (nI s))]) (S' := [.int (nI 2)]) rfl (by decide +kernel) rfl ?_
      refine Ev.goto (off := 4) (tgt := 24) (by decide +kernel) (by decide) ?_
      exact Ev.iret rfl (by decide +kernel) (⟨by rw [o2, if_neg h2, if_pos (Or.inl h11)], rfl⟩)
    · have h11 : ¬ s = 4 := zz_bE_f (by omega) (by omega) h11
      refine Ev.run [(.iload_n 0, 1), (.iconst 5, 1)] (pc' := 16) (L' := [some (.int (nI s))]) (S' := [.int (nI 5), .int (nI s)]) rfl (by decide +kernel) rfl ?_
      refine Ev.icmp_ne (off := 7) (tgt := 23) (by decide +kernel) (by decide) (fun h16 => ?_) (fun h16 => ?_)
      · have h16 : ¬ s = 5 := zz_bE_f (by omega) (by omega) h16
        refine Ev.run [(.iconst 1, 1)] (pc' := 24) (L' := [some (.int (nI s))]) (S' := [.int (nI 1)]) rfl (by decide +kernel) rfl ?_
        exact Ev.iret rfl (by decide +kernel) (⟨by rw [o2, if_neg h2, if_neg (by omega)], rfl⟩)
      · have h16 : s = 5 := zz_bE_t (by omega) (by omega) h16
        refine Ev.run [(.iconst 2, 1)] (pc' := 20) (L' := [some (.int (nI s))]) (S' := [.int (nI 2)]) rfl (by decide +kernel) rfl ?_
        refine Ev.goto (off := 4) (tgt := 24) (by decide +kernel) (by decide) ?_
        exact Ev.iret rfl (by decide +kernel) (⟨by rw [o2, if_neg h2, if_pos (Or.inr h16)], rfl⟩)
  · have h2 : s = 1 := zz_bE_t (by omega) (by omega) h2
    refine Ev.run [(.iconst 0, 1)] (pc' := 6) (L' := [some (.int (nI s))]) (S' := [.int (nI 0)]) rfl (by decide +kernel) rfl ?_
    refine Ev.goto (off := 18) (tgt := 24) (by decide +kernel) (by decide) ?_
    exact Ev.iret rfl (by decide +kernel) (⟨by rw [o2, if_pos h2], rfl⟩)

set_option maxRecDepth 100000 in
set_option maxHeartbeats 4000000 in
theorem c_X7_besides {sc : Nat × (Nat → Int32)} {d : Nat} (I : Nat → Nat → Int32) (J : Nat → Nat → Int64) (s : Nat) (hs : s < 1000) : EvM sc (d) 0 0 mX7_besides [.int (nI s)] (zz_SH, I, J) (zz_is (.int (nI (bs s))) (zz_SH, I, J)) := by
  refine EvM.of (by decide) rfl (Nat.le_of_ble_eq_true rfl) ?_
  show Ev _ _ _ _ _ 0 [some (.int (nI s))] [] (zz_SH, I, J) _
  refine Ev.run [(.iload_n 0, 1)] (pc' := 1) (L' := [some (.int (nI s))]) (S' := [.int (nI s)]) rfl (by decide +kernel) rfl ?_
  refine Ev.if_ne (off := 7) (tgt := 8) (by decide +kernel) (by decide) (fun h1 => ?_) (fun h1 => ?_)
  · have h1 : ¬ s = 0 := zz_bE_f (by omega) (by omega) h1
    refine Ev.run [(.iload_n 0, 1), (.iconst 3, 1)] (pc' := 10) (L' := [some (.int (nI s))]) (S' := [.int (nI 3), .int (nI s)]) rfl (by decide +kernel) rfl ?_
    refine Ev.icmp_ge (off := 8) (tgt := 18) (by decide +kernel) (by decide) (fun h10 => ?_) (fun h10 => ?_)
    · have h10 : s ≥ 3 := zz_bG_t (by omega) (by omega) h10
      refine Ev.run [(.iload_n 0, 1), (.iconst 5, 1)] (pc' := 20) (L' := [some (.int (nI s))]) (S' := [.int (nI 5), .int (nI s)]) rfl (by decide +kernel) rfl ?_
      refine Ev.icmp_ge (off := 8) (tgt := 28) (by decide +kernel) (by decide) (fun h20 => ?_) (fun h20 => ?_)
      · have h20 : s ≥ 5 := zz_bG_t (by omega) (by omega) h20
        refine Ev.run [(.bipush 15, 2)] (pc' := 30) (L' := [some (.int (nI s))]) (S' := [.int (nI 15)]) rfl (by decide +kernel) rfl ?_
        exact Ev.iret rfl (by decide +kernel) (⟨by rw [bs, if_neg h1, if_neg (by omega), if_neg (by omega)], rfl⟩)
      · have h20 : s < 5 := zz_bG_f (by omega) (by omega) h20
        refine Ev.run [(.bipush 10, 2)] (pc' := 25) (L' := [some (.int (nI s))]) (S' := [.int (nI 10)]) rfl (by decide +kernel) rfl ?_
        refine Ev.goto (off := 5) (tgt := 30) (by decide +kernel) (by decide) ?_
        exact Ev.iret rfl (by decide +kernel) (⟨by rw [bs, if_neg h1, if_neg (by omega), if_pos h20], rfl⟩)
    · have h10 : s < 3 := zz_bG_f (by omega) (by omega) h10
      refine Ev.run [(.bipush 30, 2)] (pc' := 15) (L' := [some (.int (nI s))]) (S' := [.int (nI 30)]) rfl (by decide +kernel) rfl ?_
      refine Ev.goto (off := 15) (tgt := 30) (by decide +kernel) (by decide) ?_
      exact Ev.iret rfl (by decide +kernel) (⟨by rw [bs, if_neg h1, if_pos h10], rfl⟩)
  · have h1 : s = 0 := zz_bE_t (by omega) (by omega) h1
    refine Ev.run [(.iconst 0, 1)] (pc' := 5) (L' := [some (.int (nI s))]) (S' := [.int (nI 0)]) rfl (by decide +kernel) rfl ?_
    refine Ev.goto (off := 25) (tgt := 30) (by decide +kernel) (by decide) ?_
    exact Ev.iret rfl (by decide +kernel) (⟨by rw [bs, if_pos h1], rfl⟩)

set_option maxRecDepth 100000 in
set_option maxHeartbeats 4000000 in
theorem c_X7_stepCosts_n {sc : Nat × (Nat → Int32)} {d : Nat} (I : Nat → Nat → Int32) (J : Nat → Nat → Int64) (A : zA) (hV : MV (zVm I) A) (hW : WF A) (s i j : Nat) (hs : s < 6) (hi : i ≤ 12) (hj : j ≤ 12) (hc : ¬ (i + o1 s ≤ aa A ∧ j + o2 s ≤ ab A)) : EvM sc (d + 1) 0 0 mX7_stepCosts [.ref 359, .int (nI s), .int (nI i), .int (nI j)] (zz_SH, I, J) (zz_is (.int (-6)) (zz_SH, I, J)) := by
  have w1 := hW.1.1
  have w2 := hW.1.2.1
  have l1 := o1_le s
  have l2 := o2_le s
  have l3 := hW.1.2.2
  refine EvM.of (by decide) rfl (Nat.le_of_ble_eq_true rfl) ?_
  show Ev _ _ _ _ _ 0 [some (.ref 359), some (.int (nI s)), some (.int (nI i)), some (.int (nI j)), none, none] [] (zz_SH, I, J) _
  refine Ev.run [(.iload_n 2, 1), (.iload_n 1, 1)] (pc' := 2) (L' := [some (.ref 359), some (.int (nI s)), some (.int (nI i)), some (.int (nI j)), none, none]) (S' := [.int (nI s), .int (nI i)]) rfl (by decide +kernel) rfl ?_
  refine Ev.callS0 mX7_ofOne [.int (nI s)] [.int (nI i)] _ rfl lk_RX7_192 (by decide +kernel) rfl (Nat.le_of_ble_eq_true rfl) (c_X7_ofOne I J s (by omega)) ?_
  rintro _ _ ⟨rfl, rfl⟩
  show Ev _ _ _ _ _ 5 [some (.ref 359), some (.int (nI s)), some (.int (nI i)), some (.int (nI j)), none, none] [.int (nI (o1 s)), .int (nI i)] (zz_SH, I, J) _
  refine Ev.run [(.iadd, 1)] (pc' := 6) (L' := [some (.ref 359), some (.int (nI s)), some (.int (nI i)), some (.int (nI j)), none, none]) (S' := [.int (nI i + nI (o1 s))]) rfl (by decide +kernel) rfl ?_
  rw [nI_add i (o1 s)]
  refine Ev.run [(.aload_n 0, 1), (.getfield 40, 3), (.iconst 0, 1)] (pc' := 11) (L' := [some (.ref 359), some (.int (nI s)), some (.int (nI i)), some (.int (nI j)), none, none]) (S' := [.int (nI 0), .ref 370, .int (nI (i + (o1 s)))]) rfl (by decide +kernel) rfl ?_
  refine Ev.iald 0 (by decide +kernel) (rfl) (rfl) (by omega) (by first | decide | omega) ?_
  dsimp only
  rw [show I 370 0 = nI (aa A) from hV.1.2.2.1]
  refine Ev.icmp_gt (off := 18) (tgt := 30) (by decide +kernel) (by decide) (fun h12 => ?_) (fun h12 => ?_)
  · have h12 : (i + (o1 s)) > (aa A) := zz_bL'_t (by omega) (by omega) h12
    refine Ev.run [(.bipush (-6), 2)] (pc' := 32) (L' := [some (.ref 359), some (.int (nI s)), some (.int (nI i)), some (.int (nI j)), none, none]) (S' := [.int ((-6))]) rfl (by decide +kernel) rfl ?_
    exact Ev.iret rfl (by decide +kernel) (⟨rfl, rfl⟩)
  · have h12 : (i + (o1 s)) ≤ (aa A) := zz_bL'_f (by omega) (by omega) h12
    refine Ev.run [(.iload_n 3, 1), (.iload_n 1, 1)] (pc' := 17) (L' := [some (.ref 359), some (.int (nI s)), some (.int (nI i)), some (.int (nI j)), none, none]) (S' := [.int (nI s), .int (nI j)]) rfl (by decide +kernel) rfl ?_
    refine Ev.callS0 mX7_ofOther [.int (nI s)] [.int (nI j)] _ rfl lk_RX7_195 (by decide +kernel) rfl (Nat.le_of_ble_eq_true rfl) (c_X7_ofOther I J s (by omega)) ?_
    rintro _ _ ⟨rfl, rfl⟩
    show Ev _ _ _ _ _ 20 [some (.ref 359), some (.int (nI s)), some (.int (nI i)), some (.int (nI j)), none, none] [.int (nI (o2 s)), .int (nI j)] (zz_SH, I, J) _
    refine Ev.run [(.iadd, 1)] (pc' := 21) (L' := [some (.ref 359), some (.int (nI s)), some (.int (nI i)), some (.int (nI j)), none, none]) (S' := [.int (nI j + nI (o2 s))]) rfl (by decide +kernel) rfl ?_
    rw [nI_add j (o2 s)]
    refine Ev.run [(.aload_n 0, 1), (.getfield 40, 3), (.iconst 1, 1)] (pc' := 26) (L' := [some (.ref 359), some (.int (nI s)), some (.int (nI i)), some (.int (nI j)), none, none]) (S' := [.int (nI 1), .ref 370, .int (nI (j + (o2 s)))]) rfl (by decide +kernel) rfl ?_
    refine Ev.iald 1 (by decide +kernel) (rfl) (rfl) (by omega) (by first | decide | omega) ?_
    dsimp only
    rw [show I 370 1 = nI (ab A) from hV.1.2.2.2]
    refine Ev.icmp_le (off := 6) (tgt := 33) (by decide +kernel) (by decide) (fun h27 => ?_) (fun h27 => ?_)
    · have h27 : (j + (o2 s)) ≤ (ab A) := zz_bG'_t (by omega) (by omega) h27
      exfalso; omega
    · have h27 : (j + (o2 s)) > (ab A) := zz_bG'_f (by omega) (by omega) h27
      refine Ev.run [(.bipush (-6), 2)] (pc' := 32) (L' := [some (.ref 359), some (.int (nI s)), some (.int (nI i)), some (.int (nI j)), none, none]) (S' := [.int ((-6))]) rfl (by decide +kernel) rfl ?_
      exact Ev.iret rfl (by decide +kernel) (⟨rfl, rfl⟩)

set_option maxRecDepth 100000 in
set_option maxHeartbeats 4000000 in
theorem l_X7_sc2 {sc : Nat × (Nat → Int32)} {d : Nat} (I : Nat → Nat → Int32) (J : Nat → Nat → Int64) (A : zA) (hV : MV (zVm I) A) (hW : WF A) (s i j : Nat) (hs : s < 6) (hi : i ≤ 12) (hj : j ≤ 12) (hc : i + o1 s ≤ aa A ∧ j + o2 s ≤ ab A) : ∀ (μ : Nat) (k : Nat), o2 s - k < μ → (k ≤ o2 s) →  Ev sc (d + 1) 0 0 mX7_stepCosts 71 [some (.ref 359), some (.int (nI s)), some (.int (nI i)), some (.int (nI j)), some (.int (nI (sm (la A) i (o1 s)) - nI (sm (lb A) j k))), some (.int (nI k))] [] (zz_SH, I, J) (zz_is (.int (nI (stv A s i j))) (zz_SH, I, J)) := by
  intro μ
  induction μ with
  | zero => intro k hμ; exact absurd hμ (Nat.not_lt_zero _)
  | succ μ ih =>
    intro k hμ hk
    have w1 := hW.1.1
    have w2 := hW.1.2.1
    have l1 := o1_le s
    have l2 := o2_le s
    have l3 := hW.1.2.2
    have m1 := sm_le (f := la A) (i := i) (fun j hj => (hW.2.2.2.2.2.1 j hj).2) (o1 s) hc.1
    have m2 := sm_le (f := lb A) (i := j) (fun j hj => (hW.2.2.2.2.2.2 j hj).2) (o2 s) hc.2
    have m3 := bs_le s
    refine Ev.run [(.iload 5, 2), (.iload_n 1, 1)] (pc' := 74) (L' := [some (.ref 359), some (.int (nI s)), some (.int (nI i)), some (.int (nI j)), some (.int (nI (sm (la A) i (o1 s)) - nI (sm (lb A) j k))), some (.int (nI k))]) (S' := [.int (nI s), .int (nI k)]) rfl (by decide +kernel) rfl ?_
    refine Ev.callS0 mX7_ofOther [.int (nI s)] [.int (nI k)] _ rfl lk_RX7_195 (by decide +kernel) rfl (Nat.le_of_ble_eq_true rfl) (c_X7_ofOther I J s (by omega)) ?_
    rintro _ _ ⟨rfl, rfl⟩
    show Ev _ _ _ _ _ 77 [some (.ref 359), some (.int (nI s)), some (.int (nI i)), some (.int (nI j)), some (.int (nI (sm (la A) i (o1 s)) - nI (sm (lb A) j k))), some (.int (nI k))] [.int (nI (o2 s)), .int (nI k)] (zz_SH, I, J) _
    refine Ev.icmp_ge (off := 26) (tgt := 103) (by decide +kernel) (by decide) (fun h77 => ?_) (fun h77 => ?_)
    · have h77 : k ≥ (o2 s) := zz_bG_t (by omega) (by omega) h77
      have hk2 : o2 s = k := by omega
      rw [← hk2]
      refine Ev.run [(.iload 4, 2)] (pc' := 105) (L' := [some (.ref 359), some (.int (nI s)), some (.int (nI i)), some (.int (nI j)), some (.int (nI (sm (la A) i (o1 s)) - nI (sm (lb A) j (o2 s)))), some (.int (nI (o2 s)))]) (S' := [.int (nI (sm (la A) i (o1 s)) - nI (sm (lb A) j (o2 s)))]) rfl (by decide +kernel) rfl ?_
      refine Ev.if_ge (off := 9) (tgt := 114) (by decide +kernel) (by decide) (fun h105 => ?_) (fun h105 => ?_)
      · have h105 := zz_ge0 (by omega) (by omega) h105
        refine Ev.run [(.iload 4, 2), (.iload_n 1, 1)] (pc' := 117) (L' := [some (.ref 359), some (.int (nI s)), some (.int (nI i)), some (.int (nI j)), some (.int (nI (sm (la A) i (o1 s)) - nI (sm (lb A) j (o2 s)))), some (.int (nI (o2 s)))]) (S' := [.int (nI s), .int (nI (sm (la A) i (o1 s)) - nI (sm (lb A) j (o2 s)))]) rfl (by decide +kernel) rfl ?_
        refine Ev.callS0 mX7_besides [.int (nI s)] [.int (nI (sm (la A) i (o1 s)) - nI (sm (lb A) j (o2 s)))] _ rfl lk_RX7_198 (by decide +kernel) rfl (Nat.le_of_ble_eq_true rfl) (c_X7_besides I J s (by omega)) ?_
        rintro _ _ ⟨rfl, rfl⟩
        show Ev _ _ _ _ _ 120 [some (.ref 359), some (.int (nI s)), some (.int (nI i)), some (.int (nI j)), some (.int (nI (sm (la A) i (o1 s)) - nI (sm (lb A) j (o2 s)))), some (.int (nI (o2 s)))] [.int (nI (bs s)), .int (nI (sm (la A) i (o1 s)) - nI (sm (lb A) j (o2 s)))] (zz_SH, I, J) _
        refine Ev.run [(.iadd, 1)] (pc' := 121) (L' := [some (.ref 359), some (.int (nI s)), some (.int (nI i)), some (.int (nI j)), some (.int (nI (sm (la A) i (o1 s)) - nI (sm (lb A) j (o2 s)))), some (.int (nI (o2 s)))]) (S' := [.int ((nI (sm (la A) i (o1 s)) - nI (sm (lb A) j (o2 s))) + nI (bs s))]) rfl (by decide +kernel) rfl ?_
        rw [show (nI (sm (la A) i (o1 s)) - nI (sm (lb A) j (o2 s))) + nI (bs s) = nI (stv A s i j) from by rw [pk_sub h105, nI_add, stv, absd, if_pos h105]]
        exact Ev.iret rfl (by decide +kernel) (⟨rfl, rfl⟩)
      · have h105 := zz_lt0 (by omega) (by omega) h105
        refine Ev.run [(.iload 4, 2), (.ineg, 1)] (pc' := 111) (L' := [some (.ref 359), some (.int (nI s)), some (.int (nI i)), some (.int (nI j)), some (.int (nI (sm (la A) i (o1 s)) - nI (sm (lb A) j (o2 s)))), some (.int (nI (o2 s)))]) (S' := [.int (-(nI (sm (la A) i (o1 s)) - nI (sm (lb A) j (o2 s))))]) rfl (by decide +kernel) rfl ?_
        refine Ev.goto (off := 5) (tgt := 116) (by decide +kernel) (by decide) ?_
        refine Ev.run [(.iload_n 1, 1)] (pc' := 117) (L' := [some (.ref 359), some (.int (nI s)), some (.int (nI i)), some (.int (nI j)), some (.int (nI (sm (la A) i (o1 s)) - nI (sm (lb A) j (o2 s)))), some (.int (nI (o2 s)))]) (S' := [.int (nI s), .int (-(nI (sm (la A) i (o1 s)) - nI (sm (lb A) j (o2 s))))]) rfl (by decide +kernel) rfl ?_
        refine Ev.callS0 mX7_besides [.int (nI s)] [.int (-(nI (sm (la A) i (o1 s)) - nI (sm (lb A) j (o2 s))))] _ rfl lk_RX7_198 (by decide +kernel) rfl (Nat.le_of_ble_eq_true rfl) (c_X7_besides I J s (by omega)) ?_
        rintro _ _ ⟨rfl, rfl⟩
        show Ev _ _ _ _ _ 120 [some (.ref 359), some (.int (nI s)), some (.int (nI i)), some (.int (nI j)), some (.int (nI (sm (la A) i (o1 s)) - nI (sm (lb A) j (o2 s)))), some (.int (nI (o2 s)))] [.int (nI (bs s)), .int (-(nI (sm (la A) i (o1 s)) - nI (sm (lb A) j (o2 s))))] (zz_SH, I, J) _
        refine Ev.run [(.iadd, 1)] (pc' := 121) (L' := [some (.ref 359), some (.int (nI s)), some (.int (nI i)), some (.int (nI j)), some (.int (nI (sm (la A) i (o1 s)) - nI (sm (lb A) j (o2 s)))), some (.int (nI (o2 s)))]) (S' := [.int ((-(nI (sm (la A) i (o1 s)) - nI (sm (lb A) j (o2 s)))) + nI (bs s))]) rfl (by decide +kernel) rfl ?_
        rw [show (-(nI (sm (la A) i (o1 s)) - nI (sm (lb A) j (o2 s)))) + nI (bs s) = nI (stv A s i j) from by rw [zz_negs, pk_sub (Nat.le_of_lt h105), nI_add, stv, absd, if_neg (by omega)]]
        exact Ev.iret rfl (by decide +kernel) (⟨rfl, rfl⟩)
    · have h77 : k < (o2 s) := zz_bG_f (by omega) (by omega) h77
      refine Ev.run [(.iload 4, 2), (.aload_n 0, 1), (.getfield 43, 3), (.bipush 12, 2), (.iload_n 3, 1), (.iadd, 1)] (pc' := 90) (L' := [some (.ref 359), some (.int (nI s)), some (.int (nI i)), some (.int (nI j)), some (.int (nI (sm (la A) i (o1 s)) - nI (sm (lb A) j k))), some (.int (nI k))]) (S' := [.int (nI 12 + nI j), .ref 371, .int (nI (sm (la A) i (o1 s)) - nI (sm (lb A) j k))]) rfl (by decide +kernel) rfl ?_
      rw [nI_add 12 j]
      refine Ev.run [(.iload 5, 2), (.iadd, 1)] (pc' := 93) (L' := [some (.ref 359), some (.int (nI s)), some (.int (nI i)), some (.int (nI j)), some (.int (nI (sm (la A) i (o1 s)) - nI (sm (lb A) j k))), some (.int (nI k))]) (S' := [.int (nI (12 + j) + nI k), .ref 371, .int (nI (sm (la A) i (o1 s)) - nI (sm (lb A) j k))]) rfl (by decide +kernel) rfl ?_
      rw [nI_add (12 + j) k]
      refine Ev.iald ((12 + j) + k) (by decide +kernel) (rfl) (rfl) (by omega) (by first | decide | omega) ?_
      dsimp only
      rw [show I 371 (12 + j + k) = nI (lb A (j + k)) from by rw [Nat.add_assoc]; exact hV.2.2.2.2.2.2 (j + k) (by omega)]
      refine Ev.run [(.isub, 1)] (pc' := 95) (L' := [some (.ref 359), some (.int (nI s)), some (.int (nI i)), some (.int (nI j)), some (.int (nI (sm (la A) i (o1 s)) - nI (sm (lb A) j k))), some (.int (nI k))]) (S' := [.int ((nI (sm (la A) i (o1 s)) - nI (sm (lb A) j k)) - nI (lb A (j + k)))]) rfl (by decide +kernel) rfl ?_
      rw [show (nI (sm (la A) i (o1 s)) - nI (sm (lb A) j k)) - nI (lb A (j + k)) = nI (sm (la A) i (o1 s)) - nI (sm (lb A) j k + lb A (j + k)) from zz_ss _ _ _]
      refine Ev.run [(.istore 4, 2), (.iinc 5 1, 3)] (pc' := 100) (L' := [some (.ref 359), some (.int (nI s)), some (.int (nI i)), some (.int (nI j)), some (.int (nI (sm (la A) i (o1 s)) - nI (sm (lb A) j k + lb A (j + k)))), some (.int (nI k + 1))]) (S' := []) rfl (by decide +kernel) rfl ?_
      rw [nI_1 k]
      refine Ev.goto (off := (-29)) (tgt := 71) (by decide +kernel) (by decide) ?_
      exact ih (k + 1) (by omega) (by omega)

set_option maxRecDepth 100000 in
set_option maxHeartbeats 4000000 in
theorem l_X7_sc1 {sc : Nat × (Nat → Int32)} {d : Nat} (I : Nat → Nat → Int32) (J : Nat → Nat → Int64) (A : zA) (hV : MV (zVm I) A) (hW : WF A) (s i j : Nat) (hs : s < 6) (hi : i ≤ 12) (hj : j ≤ 12) (hc : i + o1 s ≤ aa A ∧ j + o2 s ≤ ab A) : ∀ (μ : Nat) (k : Nat), o1 s - k < μ → (k ≤ o1 s) →  Ev sc (d + 1) 0 0 mX7_stepCosts 39 [some (.ref 359), some (.int (nI s)), some (.int (nI i)), some (.int (nI j)), some (.int (nI (sm (la A) i k))), some (.int (nI k))] [] (zz_SH, I, J) (zz_is (.int (nI (stv A s i j))) (zz_SH, I, J)) := by
  intro μ
  induction μ with
  | zero => intro k hμ; exact absurd hμ (Nat.not_lt_zero _)
  | succ μ ih =>
    intro k hμ hk
    have w1 := hW.1.1
    have w2 := hW.1.2.1
    have l1 := o1_le s
    have l2 := o2_le s
    have l3 := hW.1.2.2
    have m1 := sm_le (f := la A) (i := i) (fun j hj => (hW.2.2.2.2.2.1 j hj).2) (o1 s) hc.1
    have m2 := sm_le (f := lb A) (i := j) (fun j hj => (hW.2.2.2.2.2.2 j hj).2) (o2 s) hc.2
    have m3 := bs_le s
    have m4 := sm_le (f := la A) (i := i) (fun j hj => (hW.2.2.2.2.2.1 j hj).2) k (by omega)
    refine Ev.run [(.iload 5, 2), (.iload_n 1, 1)] (pc' := 42) (L' := [some (.ref 359), some (.int (nI s)), some (.int (nI i)), some (.int (nI j)), some (.int (nI (sm (la A) i k))), some (.int (nI k))]) (S' := [.int (nI s), .int (nI k)]) rfl (by decide +kernel) rfl ?_
    refine Ev.callS0 mX7_ofOne [.int (nI s)] [.int (nI k)] _ rfl lk_RX7_192 (by decide +kernel) rfl (Nat.le_of_ble_eq_true rfl) (c_X7_ofOne I J s (by omega)) ?_
    rintro _ _ ⟨rfl, rfl⟩
    show Ev _ _ _ _ _ 45 [some (.ref 359), some (.int (nI s)), some (.int (nI i)), some (.int (nI j)), some (.int (nI (sm (la A) i k))), some (.int (nI k))] [.int (nI (o1 s)), .int (nI k)] (zz_SH, I, J) _
    refine Ev.icmp_ge (off := 23) (tgt := 68) (by decide +kernel) (by decide) (fun h45 => ?_) (fun h45 => ?_)
    · have h45 : k ≥ (o1 s) := zz_bG_t (by omega) (by omega) h45
      have hk1 : o1 s = k := by omega
      refine Ev.run [(.iconst 0, 1), (.istore 5, 2)] (pc' := 71) (L' := [some (.ref 359), some (.int (nI s)), some (.int (nI i)), some (.int (nI j)), some (.int (nI (sm (la A) i k))), some (.int (nI 0))]) (S' := []) rfl (by decide +kernel) rfl ?_
      rw [← hk1, show nI (sm (la A) i (o1 s)) = nI (sm (la A) i (o1 s)) - nI (sm (lb A) j 0) from by rw [show nI (sm (lb A) j 0) = nI 0 from rfl, pk_sub (Nat.zero_le _)]; rfl]
      exact l_X7_sc2 I J A hV hW s i j hs hi hj hc (o2 s + 1) 0 (by omega) (by omega)
    · have h45 : k < (o1 s) := zz_bG_f (by omega) (by omega) h45
      refine Ev.run [(.iload 4, 2), (.aload_n 0, 1), (.getfield 43, 3), (.iload_n 2, 1), (.iload 5, 2), (.iadd, 1)] (pc' := 58) (L' := [some (.ref 359), some (.int (nI s)), some (.int (nI i)), some (.int (nI j)), some (.int (nI (sm (la A) i k))), some (.int (nI k))]) (S' := [.int (nI i + nI k), .ref 371, .int (nI (sm (la A) i k))]) rfl (by decide +kernel) rfl ?_
      rw [nI_add i k]
      refine Ev.iald (i + k) (by decide +kernel) (rfl) (rfl) (by omega) (by first | decide | omega) ?_
      dsimp only
      rw [show I 371 (i + k) = nI (la A (i + k)) from hV.2.2.2.2.2.1 (i + k) (by omega)]
      refine Ev.run [(.iadd, 1)] (pc' := 60) (L' := [some (.ref 359), some (.int (nI s)), some (.int (nI i)), some (.int (nI j)), some (.int (nI (sm (la A) i k))), some (.int (nI k))]) (S' := [.int (nI (sm (la A) i k) + nI (la A (i + k)))]) rfl (by decide +kernel) rfl ?_
      rw [nI_add (sm (la A) i k) (la A (i + k))]
      refine Ev.run [(.istore 4, 2), (.iinc 5 1, 3)] (pc' := 65) (L' := [some (.ref 359), some (.int (nI s)), some (.int (nI i)), some (.int (nI j)), some (.int (nI ((sm (la A) i k) + (la A (i + k))))), some (.int (nI k + 1))]) (S' := []) rfl (by decide +kernel) rfl ?_
      rw [nI_1 k]
      refine Ev.goto (off := (-26)) (tgt := 39) (by decide +kernel) (by decide) ?_
      exact ih (k + 1) (by omega) (by omega)

set_option maxRecDepth 100000 in
set_option maxHeartbeats 4000000 in
theorem c_X7_stepCosts_s {sc : Nat × (Nat → Int32)} {d : Nat} (I : Nat → Nat → Int32) (J : Nat → Nat → Int64) (A : zA) (hV : MV (zVm I) A) (hW : WF A) (s i j : Nat) (hs : s < 6) (hi : i ≤ 12) (hj : j ≤ 12) (hc : i + o1 s ≤ aa A ∧ j + o2 s ≤ ab A) : EvM sc (d + 1) 0 0 mX7_stepCosts [.ref 359, .int (nI s), .int (nI i), .int (nI j)] (zz_SH, I, J) (zz_is (.int (nI (stv A s i j))) (zz_SH, I, J)) := by
  have w1 := hW.1.1
  have w2 := hW.1.2.1
  have l1 := o1_le s
  have l2 := o2_le s
  have l3 := hW.1.2.2
  have m1 := sm_le (f := la A) (i := i) (fun j hj => (hW.2.2.2.2.2.1 j hj).2) (o1 s) hc.1
  have m2 := sm_le (f := lb A) (i := j) (fun j hj => (hW.2.2.2.2.2.2 j hj).2) (o2 s) hc.2
  have m3 := bs_le s
  refine EvM.of (by decide) rfl (Nat.le_of_ble_eq_true rfl) ?_
  show Ev _ _ _ _ _ 0 [some (.ref 359), some (.int (nI s)), some (.int (nI i)), some (.int (nI j)), none, none] [] (zz_SH, I, J) _
  refine Ev.run [(.iload_n 2, 1), (.iload_n 1, 1)] (pc' := 2) (L' := [some (.ref 359), some (.int (nI s)), some (.int (nI i)), some (.int (nI j)), none, none]) (S' := [.int (nI s), .int (nI i)]) rfl (by decide +kernel) rfl ?_
  refine Ev.callS0 mX7_ofOne [.int (nI s)] [.int (nI i)] _ rfl lk_RX7_192 (by decide +kernel) rfl (Nat.le_of_ble_eq_true rfl) (c_X7_ofOne I J s (by omega)) ?_
  rintro _ _ ⟨rfl, rfl⟩
  show Ev _ _ _ _ _ 5 [some (.ref 359), some (.int (nI s)), some (.int (nI i)), some (.int (nI j)), none, none] [.int (nI (o1 s)), .int (nI i)] (zz_SH, I, J) _
  refine Ev.run [(.iadd, 1)] (pc' := 6) (L' := [some (.ref 359), some (.int (nI s)), some (.int (nI i)), some (.int (nI j)), none, none]) (S' := [.int (nI i + nI (o1 s))]) rfl (by decide +kernel) rfl ?_
  rw [nI_add i (o1 s)]
  refine Ev.run [(.aload_n 0, 1), (.getfield 40, 3), (.iconst 0, 1)] (pc' := 11) (L' := [some (.ref 359), some (.int (nI s)), some (.int (nI i)), some (.int (nI j)), none, none]) (S' := [.int (nI 0), .ref 370, .int (nI (i + (o1 s)))]) rfl (by decide +kernel) rfl ?_
  refine Ev.iald 0 (by decide +kernel) (rfl) (rfl) (by omega) (by first | decide | omega) ?_
  dsimp only
  rw [show I 370 0 = nI (aa A) from hV.1.2.2.1]
  refine Ev.icmp_gt (off := 18) (tgt := 30) (by decide +kernel) (by decide) (fun h12 => ?_) (fun h12 => ?_)
  · have h12 : (i + (o1 s)) > (aa A) := zz_bL'_t (by omega) (by omega) h12
    exfalso; omega
  · have h12 : (i + (o1 s)) ≤ (aa A) := zz_bL'_f (by omega) (by omega) h12
    refine Ev.run [(.iload_n 3, 1), (.iload_n 1, 1)] (pc' := 17) (L' := [some (.ref 359), some (.int (nI s)), some (.int (nI i)), some (.int (nI j)), none, none]) (S' := [.int (nI s), .int (nI j)]) rfl (by decide +kernel) rfl ?_
    refine Ev.callS0 mX7_ofOther [.int (nI s)] [.int (nI j)] _ rfl lk_RX7_195 (by decide +kernel) rfl (Nat.le_of_ble_eq_true rfl) (c_X7_ofOther I J s (by omega)) ?_
    rintro _ _ ⟨rfl, rfl⟩
    show Ev _ _ _ _ _ 20 [some (.ref 359), some (.int (nI s)), some (.int (nI i)), some (.int (nI j)), none, none] [.int (nI (o2 s)), .int (nI j)] (zz_SH, I, J) _
    refine Ev.run [(.iadd, 1)] (pc' := 21) (L' := [some (.ref 359), some (.int (nI s)), some (.int (nI i)), some (.int (nI j)), none, none]) (S' := [.int (nI j + nI (o2 s))]) rfl (by decide +kernel) rfl ?_
    rw [nI_add j (o2 s)]
    refine Ev.run [(.aload_n 0, 1), (.getfield 40, 3), (.iconst 1, 1)] (pc' := 26) (L' := [some (.ref 359), some (.int (nI s)), some (.int (nI i)), some (.int (nI j)), none, none]) (S' := [.int (nI 1), .ref 370, .int (nI (j + (o2 s)))]) rfl (by decide +kernel) rfl ?_
    refine Ev.iald 1 (by decide +kernel) (rfl) (rfl) (by omega) (by first | decide | omega) ?_
    dsimp only
    rw [show I 370 1 = nI (ab A) from hV.1.2.2.2]
    refine Ev.icmp_le (off := 6) (tgt := 33) (by decide +kernel) (by decide) (fun h27 => ?_) (fun h27 => ?_)
    · have h27 : (j + (o2 s)) ≤ (ab A) := zz_bG'_t (by omega) (by omega) h27
      refine Ev.run [(.iconst 0, 1), (.istore 4, 2), (.iconst 0, 1), (.istore 5, 2)] (pc' := 39) (L' := [some (.ref 359), some (.int (nI s)), some (.int (nI i)), some (.int (nI j)), some (.int (nI 0)), some (.int (nI 0))]) (S' := []) rfl (by decide +kernel) rfl ?_
      exact l_X7_sc1 I J A hV hW s i j hs hi hj hc (o1 s + 1) 0 (by omega) (by omega)
    · have h27 : (j + (o2 s)) > (ab A) := zz_bG'_f (by omega) (by omega) h27
      exfalso; omega
