/-! ===== the model: laid ===== -/

theorem zz_nm3 (k : Nat) (hk : k < 2 ^ 31) : ¬ nI k = (-3) := by
  intro h
  have h1 := congrArg Int32.toInt h
  rw [nI_toInt hk] at h1
  have h2 : (-3 : Int32).toInt = -3 := by decide
  omega

set_option maxRecDepth 100000 in
set_option maxHeartbeats 4000000 in
theorem c_X7_laid_c {sc : Nat × (Nat → Int32)} {d : Nat} (I : Nat → Nat → Int32) (J : Nat → Nat → Int64) (A : zA) (hV : MV (zVm I) A) (hW : WF A) : EvM sc (d + 3) 0 0 mX7_laid [.ref 359, .int ((-1))] (zz_SH, I, J) (fun r σ => r = some (.long (Int32.toInt64 (nI (LT A 0 0).1))) ∧ ∃ (I' : Nat → Nat → Int32) (J' : Nat → Nat → Int64), zSc I I' ∧ zJ8 J J' ∧ σ = (zz_SH, I', J')) := by
  have w1 := hW.1.1
  have w2 := hW.1.2.1
  have l3 := hW.1.2.2
  refine EvM.of (by decide) rfl (Nat.le_of_ble_eq_true rfl) ?_
  show Ev _ _ _ _ _ 0 [some (.ref 359), some (.int ((-1))), none, none, none, none, none] [] (zz_SH, I, J) _
  refine Ev.run [(.aload_n 0, 1)] (pc' := 1) (L' := [some (.ref 359), some (.int ((-1))), none, none, none, none, none]) (S' := [.ref 359]) rfl (by decide +kernel) rfl ?_
  refine Ev.callV0 mX7_layCosts [] [] _ rfl lk_RX7_204 (by decide +kernel) (rfl) rfl rfl rfl (Nat.le_of_ble_eq_true rfl) (c_X7_layCosts I J A hV hW) ?_
  rintro _ _ ⟨rfl, I1, J1, hs, hJ, hT, rfl⟩
  show Ev _ _ _ _ _ 4 [some (.ref 359), some (.int ((-1))), none, none, none, none, none] [] (zz_SH, I1, J1) _
  refine Ev.run [(.iload_n 1, 1), (.iconst (-1), 1)] (pc' := 6) (L' := [some (.ref 359), some (.int ((-1))), none, none, none, none, none]) (S' := [.int ((-1)), .int ((-1))]) rfl (by decide +kernel) rfl ?_
  refine Ev.icmp_ne (off := 11) (tgt := 17) (by decide +kernel) (by decide) (fun h6 => absurd h6 (fun q => q rfl)) (fun h6 => ?_)
  refine Ev.run [(.aload_n 0, 1), (.getfield 61, 3), (.iconst 0, 1)] (pc' := 14) (L' := [some (.ref 359), some (.int ((-1))), none, none, none, none, none]) (S' := [.int (nI 0), .ref 377]) rfl (by decide +kernel) rfl ?_
  refine Ev.iald 0 (by decide +kernel) (rfl) (rfl) (by omega) (by first | decide | omega) ?_
  dsimp only
  rw [show I1 377 0 = nI (LT A 0 0).1 from (hT 0 0 (Nat.zero_le _) (Nat.zero_le _) (Nat.le_refl 0)).1]
  refine Ev.run [(.i2l, 1)] (pc' := 16) (L' := [some (.ref 359), some (.int ((-1))), none, none, none, none, none]) (S' := [.long (Int32.toInt64 (nI ((LT A 0 0).1)))]) rfl (by decide +kernel) rfl ?_
  exact Ev.lret rfl (by decide +kernel) (⟨rfl, I1, J1, hs.sc, hJ, rfl⟩)

set_option maxRecDepth 100000 in
set_option maxHeartbeats 4000000 in
theorem c_X7_laid_w {sc : Nat × (Nat → Int32)} {d : Nat} (I : Nat → Nat → Int32) (J : Nat → Nat → Int64) (A : zA) (hV : MV (zVm I) A) (hW : WF A) : EvM sc (d + 3) 0 0 mX7_laid [.ref 359, .int ((-2))] (zz_SH, I, J) (fun r σ => r = some (.long ((LT A 0 0).2)) ∧ ∃ (I' : Nat → Nat → Int32) (J' : Nat → Nat → Int64), zSc I I' ∧ zJ8 J J' ∧ σ = (zz_SH, I', J')) := by
  have w1 := hW.1.1
  have w2 := hW.1.2.1
  have l3 := hW.1.2.2
  refine EvM.of (by decide) rfl (Nat.le_of_ble_eq_true rfl) ?_
  show Ev _ _ _ _ _ 0 [some (.ref 359), some (.int ((-2))), none, none, none, none, none] [] (zz_SH, I, J) _
  refine Ev.run [(.aload_n 0, 1)] (pc' := 1) (L' := [some (.ref 359), some (.int ((-2))), none, none, none, none, none]) (S' := [.ref 359]) rfl (by decide +kernel) rfl ?_
  refine Ev.callV0 mX7_layCosts [] [] _ rfl lk_RX7_204 (by decide +kernel) (rfl) rfl rfl rfl (Nat.le_of_ble_eq_true rfl) (c_X7_layCosts I J A hV hW) ?_
  rintro _ _ ⟨rfl, I1, J1, hs, hJ, hT, rfl⟩
  show Ev _ _ _ _ _ 4 [some (.ref 359), some (.int ((-2))), none, none, none, none, none] [] (zz_SH, I1, J1) _
  refine Ev.run [(.iload_n 1, 1), (.iconst (-1), 1)] (pc' := 6) (L' := [some (.ref 359), some (.int ((-2))), none, none, none, none, none]) (S' := [.int ((-1)), .int ((-2))]) rfl (by decide +kernel) rfl ?_
  refine Ev.icmp_ne (off := 11) (tgt := 17) (by decide +kernel) (by decide) (fun h6 => ?_) (fun h6 => absurd h6 (by decide))
  refine Ev.run [(.iload_n 1, 1), (.bipush (-2), 2)] (pc' := 20) (L' := [some (.ref 359), some (.int ((-2))), none, none, none, none, none]) (S' := [.int ((-2)), .int ((-2))]) rfl (by decide +kernel) rfl ?_
  refine Ev.icmp_ne (off := 10) (tgt := 30) (by decide +kernel) (by decide) (fun h20 => absurd h20 (fun q => q rfl)) (fun h20 => ?_)
  refine Ev.run [(.aload_n 0, 1), (.getfield 64, 3), (.iconst 0, 1)] (pc' := 28) (L' := [some (.ref 359), some (.int ((-2))), none, none, none, none, none]) (S' := [.int (nI 0), .ref 378]) rfl (by decide +kernel) rfl ?_
  refine Ev.lald 0 (by decide +kernel) (rfl) (rfl) (by omega) (by first | decide | omega) ?_
  dsimp only
  rw [show J1 378 0 = (LT A 0 0).2 from (hT 0 0 (Nat.zero_le _) (Nat.zero_le _) (Nat.le_refl 0)).2]
  exact Ev.lret rfl (by decide +kernel) (⟨rfl, I1, J1, hs.sc, hJ, rfl⟩)

set_option maxRecDepth 100000 in
set_option maxHeartbeats 4000000 in
theorem l_X7_ld1 {sc : Nat × (Nat → Int32)} {d : Nat} (I : Nat → Nat → Int32) (J : Nat → Nat → Int64) (A : zA) (hV : MV (zVm I) A) (hW : WF A) (x : Int32) (hx1 : ¬ x = (-1)) (hx2 : ¬ x = (-2)) (I1 : Nat → Nat → Int32) (J1 : Nat → Nat → Int64) (hs : zS8 I I1) (hJ : zJ8 J J1) (hT : TI A 0 I1 J1) (i j n : Nat) (hi : i ≤ aa A) (hj : j ≤ ab A) (hij : i < aa A ∨ j < ab A) (hout : Ev sc (d + 3) 0 0 mX7_laid 126 [some (.ref 359), some (.int x), some (.int (nI i)), some (.int (nI j)), some (.int (nI n)), none, some (.int (nI (fst6 A i j)))] [] (zz_SH, I1, J1) (fun r σ => r = some (.long (Int32.toInt64 (lsp A x))) ∧ ∃ (I' : Nat → Nat → Int32) (J' : Nat → Nat → Int64), zSc I I' ∧ zJ8 J J' ∧ σ = (zz_SH, I', J'))) : ∀ (μ : Nat) (s : Nat), 6 - s < μ → (s ≤ fst6 A i j) →  Ev sc (d + 3) 0 0 mX7_laid 68 [some (.ref 359), some (.int x), some (.int (nI i)), some (.int (nI j)), some (.int (nI n)), some (.int (nI (13 * i + j))), some (.int (nI s))] [] (zz_SH, I1, J1) (fun r σ => r = some (.long (Int32.toInt64 (lsp A x))) ∧ ∃ (I' : Nat → Nat → Int32) (J' : Nat → Nat → Int64), zSc I I' ∧ zJ8 J J' ∧ σ = (zz_SH, I', J')) := by
  intro μ
  induction μ with
  | zero => intro s hμ; exact absurd hμ (Nat.not_lt_zero _)
  | succ μ ih =>
    intro s hμ hs6
    have w1 := hW.1.1
    have w2 := hW.1.2.1
    have l3 := hW.1.2.2
    obtain ⟨f1, f2, f3⟩ := fst6_spec hW hi hj hij
    have l1 := o1_le s
    have l2 := o2_le s
    have q3 := LT_b hW hi hj
    refine Ev.run [(.aload_n 0, 1)] (pc' := 69) (L' := [some (.ref 359), some (.int x), some (.int (nI i)), some (.int (nI j)), some (.int (nI n)), some (.int (nI (13 * i + j))), some (.int (nI s))]) (S' := [.ref 359]) rfl (by decide +kernel) rfl ?_
    by_cases hc : i + o1 s ≤ aa A ∧ j + o2 s ≤ ab A
    · show Ev _ _ _ _ _ 69 [some (.ref 359), some (.int x), some (.int (nI i)), some (.int (nI j)), some (.int (nI n)), some (.int (nI (13 * i + j))), some (.int (nI s))] [.ref 359] (zz_SH, I1, J1) _
      refine Ev.run [(.iload 6, 2), (.iload_n 2, 1), (.iload_n 3, 1)] (pc' := 73) (L' := [some (.ref 359), some (.int x), some (.int (nI i)), some (.int (nI j)), some (.int (nI n)), some (.int (nI (13 * i + j))), some (.int (nI s))]) (S' := [.int (nI j), .int (nI i), .int (nI s), .ref 359]) rfl (by decide +kernel) rfl ?_
      refine Ev.callV0 mX7_stepCosts [.int (nI s), .int (nI i), .int (nI j)] [] _ rfl lk_RX7_201 (by decide +kernel) (rfl) rfl rfl rfl (Nat.le_of_ble_eq_true rfl) (c_X7_stepCosts_s I1 J1 A (hs.sc.mv hV) hW s i j (by omega) (by omega) (by omega) hc) ?_
      rintro _ _ ⟨rfl, rfl⟩
      have q1 := stv_le hW hc
      have q2 := LT_b hW hc.1 hc.2
      show Ev _ _ _ _ _ 76 [some (.ref 359), some (.int x), some (.int (nI i)), some (.int (nI j)), some (.int (nI n)), some (.int (nI (13 * i + j))), some (.int (nI s))] [.int (nI (stv A s i j))] (zz_SH, I1, J1) _
      refine Ev.if_lt (off := 44) (tgt := 120) (by decide +kernel) (by decide) (fun h76 => ?_) (fun h76 => ?_)
      · have h76 : (stv A s i j) < 0 := zz_bL_t (by omega) (by omega) h76
        exfalso; omega
      · have h76 : (stv A s i j) ≥ 0 := zz_bL_f (by omega) (by omega) h76
        refine Ev.run [(.aload_n 0, 1), (.iload 6, 2), (.iload_n 2, 1), (.iload_n 3, 1)] (pc' := 84) (L' := [some (.ref 359), some (.int x), some (.int (nI i)), some (.int (nI j)), some (.int (nI n)), some (.int (nI (13 * i + j))), some (.int (nI s))]) (S' := [.int (nI j), .int (nI i), .int (nI s), .ref 359]) rfl (by decide +kernel) rfl ?_
        refine Ev.callV0 mX7_stepCosts [.int (nI s), .int (nI i), .int (nI j)] [] _ rfl lk_RX7_201 (by decide +kernel) (rfl) rfl rfl rfl (Nat.le_of_ble_eq_true rfl) (c_X7_stepCosts_s I1 J1 A (hs.sc.mv hV) hW s i j (by omega) (by omega) (by omega) hc) ?_
        rintro _ _ ⟨rfl, rfl⟩
        have q1 := stv_le hW hc
        have q2 := LT_b hW hc.1 hc.2
        show Ev _ _ _ _ _ 87 [some (.ref 359), some (.int x), some (.int (nI i)), some (.int (nI j)), some (.int (nI n)), some (.int (nI (13 * i + j))), some (.int (nI s))] [.int (nI (stv A s i j))] (zz_SH, I1, J1) _
        refine Ev.run [(.aload_n 0, 1), (.getfield 61, 3), (.iload 5, 2), (.bipush 13, 2), (.iload 6, 2)] (pc' := 97) (L' := [some (.ref 359), some (.int x), some (.int (nI i)), some (.int (nI j)), some (.int (nI n)), some (.int (nI (13 * i + j))), some (.int (nI s))]) (S' := [.int (nI s), .int (nI 13), .int (nI (13 * i + j)), .ref 377, .int (nI (stv A s i j))]) rfl (by decide +kernel) rfl ?_
        refine Ev.callS0 mX7_ofOne [.int (nI s)] [.int (nI 13), .int (nI (13 * i + j)), .ref 377, .int (nI (stv A s i j))] _ rfl lk_RX7_192 (by decide +kernel) rfl (Nat.le_of_ble_eq_true rfl) (c_X7_ofOne I1 J1 s (by omega)) ?_
        rintro _ _ ⟨rfl, rfl⟩
        show Ev _ _ _ _ _ 100 [some (.ref 359), some (.int x), some (.int (nI i)), some (.int (nI j)), some (.int (nI n)), some (.int (nI (13 * i + j))), some (.int (nI s))] [.int (nI (o1 s)), .int (nI 13), .int (nI (13 * i + j)), .ref 377, .int (nI (stv A s i j))] (zz_SH, I1, J1) _
        refine Ev.run [(.imul, 1)] (pc' := 101) (L' := [some (.ref 359), some (.int x), some (.int (nI i)), some (.int (nI j)), some (.int (nI n)), some (.int (nI (13 * i + j))), some (.int (nI s))]) (S' := [.int (nI 13 * nI (o1 s)), .int (nI (13 * i + j)), .ref 377, .int (nI (stv A s i j))]) rfl (by decide +kernel) rfl ?_
        rw [pk_mul 13 (o1 s)]
        refine Ev.run [(.iadd, 1)] (pc' := 102) (L' := [some (.ref 359), some (.int x), some (.int (nI i)), some (.int (nI j)), some (.int (nI n)), some (.int (nI (13 * i + j))), some (.int (nI s))]) (S' := [.int (nI (13 * i + j) + nI (13 * (o1 s))), .ref 377, .int (nI (stv A s i j))]) rfl (by decide +kernel) rfl ?_
        rw [nI_add (13 * i + j) (13 * (o1 s))]
        refine Ev.run [(.iload 6, 2)] (pc' := 104) (L' := [some (.ref 359), some (.int x), some (.int (nI i)), some (.int (nI j)), some (.int (nI n)), some (.int (nI (13 * i + j))), some (.int (nI s))]) (S' := [.int (nI s), .int (nI ((13 * i + j) + (13 * (o1 s)))), .ref 377, .int (nI (stv A s i j))]) rfl (by decide +kernel) rfl ?_
        refine Ev.callS0 mX7_ofOther [.int (nI s)] [.int (nI ((13 * i + j) + (13 * (o1 s)))), .ref 377, .int (nI (stv A s i j))] _ rfl lk_RX7_195 (by decide +kernel) rfl (Nat.le_of_ble_eq_true rfl) (c_X7_ofOther I1 J1 s (by omega)) ?_
        rintro _ _ ⟨rfl, rfl⟩
        show Ev _ _ _ _ _ 107 [some (.ref 359), some (.int x), some (.int (nI i)), some (.int (nI j)), some (.int (nI n)), some (.int (nI (13 * i + j))), some (.int (nI s))] [.int (nI (o2 s)), .int (nI ((13 * i + j) + (13 * (o1 s)))), .ref 377, .int (nI (stv A s i j))] (zz_SH, I1, J1) _
        refine Ev.run [(.iadd, 1)] (pc' := 108) (L' := [some (.ref 359), some (.int x), some (.int (nI i)), some (.int (nI j)), some (.int (nI n)), some (.int (nI (13 * i + j))), some (.int (nI s))]) (S' := [.int (nI ((13 * i + j) + (13 * (o1 s))) + nI (o2 s)), .ref 377, .int (nI (stv A s i j))]) rfl (by decide +kernel) rfl ?_
        rw [nI_add ((13 * i + j) + (13 * (o1 s))) (o2 s)]
        refine Ev.iald (((13 * i + j) + (13 * (o1 s))) + (o2 s)) (by decide +kernel) (rfl) (rfl) (by omega) (by first | decide | omega) ?_
        dsimp only
        rw [show I1 377 (13 * i + j + 13 * o1 s + o2 s) = nI (LT A (i + o1 s) (j + o2 s)).1 from by rw [show 13 * i + j + 13 * o1 s + o2 s = 13 * (i + o1 s) + (j + o2 s) by omega]; exact (hT _ _ hc.1 hc.2 (Nat.zero_le _)).1]
        refine Ev.run [(.iadd, 1)] (pc' := 110) (L' := [some (.ref 359), some (.int x), some (.int (nI i)), some (.int (nI j)), some (.int (nI n)), some (.int (nI (13 * i + j))), some (.int (nI s))]) (S' := [.int (nI (stv A s i j) + nI ((LT A (i + o1 s) (j + o2 s)).1))]) rfl (by decide +kernel) rfl ?_
        rw [nI_add (stv A s i j) ((LT A (i + o1 s) (j + o2 s)).1)]
        refine Ev.run [(.aload_n 0, 1), (.getfield 61, 3), (.iload 5, 2)] (pc' := 116) (L' := [some (.ref 359), some (.int x), some (.int (nI i)), some (.int (nI j)), some (.int (nI n)), some (.int (nI (13 * i + j))), some (.int (nI s))]) (S' := [.int (nI (13 * i + j)), .ref 377, .int (nI ((stv A s i j) + ((LT A (i + o1 s) (j + o2 s)).1)))]) rfl (by decide +kernel) rfl ?_
        refine Ev.iald (13 * i + j) (by decide +kernel) (rfl) (rfl) (by omega) (by first | decide | omega) ?_
        dsimp only
        rw [show I1 377 (13 * i + j) = nI (LT A i j).1 from (hT i j hi hj (Nat.zero_le _)).1]
        refine Ev.icmp_eq (off := 9) (tgt := 126) (by decide +kernel) (by decide) (fun h117 => ?_) (fun h117 => ?_)
        · have h117 : ((stv A s i j) + ((LT A (i + o1 s) (j + o2 s)).1)) = ((LT A i j).1) := zz_bE_t (by omega) (by omega) h117
          refine Ev.weakL (L' := [some (.ref 359), some (.int x), some (.int (nI i)), some (.int (nI j)), some (.int (nI n)), none, some (.int (nI s))]) ⟨rfl, rfl, rfl, rfl, rfl, rfl, trivial⟩ ?_
          have hse : fst6 A i j = s := by
            rcases Nat.lt_or_ge s (fst6 A i j) with q | q
            · exact absurd ⟨hc, h117⟩ (f3 s q)
            · omega
          rw [← hse]
          exact hout
        · have h117 : ¬ ((stv A s i j) + ((LT A (i + o1 s) (j + o2 s)).1)) = ((LT A i j).1) := zz_bE_f (by omega) (by omega) h117
          refine Ev.run [(.iinc 6 1, 3)] (pc' := 123) (L' := [some (.ref 359), some (.int x), some (.int (nI i)), some (.int (nI j)), some (.int (nI n)), some (.int (nI (13 * i + j))), some (.int (nI s + 1))]) (S' := []) rfl (by decide +kernel) rfl ?_
          rw [nI_1 s]
          refine Ev.goto (off := (-55)) (tgt := 68) (by decide +kernel) (by decide) ?_
          have hne : s ≠ fst6 A i j := fun e => h117 (by rw [e]; exact f2.2)
          exact ih (s + 1) (by omega) (by omega)
    · show Ev _ _ _ _ _ 69 [some (.ref 359), some (.int x), some (.int (nI i)), some (.int (nI j)), some (.int (nI n)), some (.int (nI (13 * i + j))), some (.int (nI s))] [.ref 359] (zz_SH, I1, J1) _
      refine Ev.run [(.iload 6, 2), (.iload_n 2, 1), (.iload_n 3, 1)] (pc' := 73) (L' := [some (.ref 359), some (.int x), some (.int (nI i)), some (.int (nI j)), some (.int (nI n)), some (.int (nI (13 * i + j))), some (.int (nI s))]) (S' := [.int (nI j), .int (nI i), .int (nI s), .ref 359]) rfl (by decide +kernel) rfl ?_
      refine Ev.callV0 mX7_stepCosts [.int (nI s), .int (nI i), .int (nI j)] [] _ rfl lk_RX7_201 (by decide +kernel) (rfl) rfl rfl rfl (Nat.le_of_ble_eq_true rfl) (c_X7_stepCosts_n I1 J1 A (hs.sc.mv hV) hW s i j (by omega) (by omega) (by omega) hc) ?_
      rintro _ _ ⟨rfl, rfl⟩
      show Ev _ _ _ _ _ 76 [some (.ref 359), some (.int x), some (.int (nI i)), some (.int (nI j)), some (.int (nI n)), some (.int (nI (13 * i + j))), some (.int (nI s))] [.int ((-6))] (zz_SH, I1, J1) _
      refine Ev.if_lt (off := 44) (tgt := 120) (by decide +kernel) (by decide) (fun h76 => ?_) (fun h76 => absurd h76 (by decide))
      refine Ev.run [(.iinc 6 1, 3)] (pc' := 123) (L' := [some (.ref 359), some (.int x), some (.int (nI i)), some (.int (nI j)), some (.int (nI n)), some (.int (nI (13 * i + j))), some (.int (nI s + 1))]) (S' := []) rfl (by decide +kernel) rfl ?_
      rw [nI_1 s]
      refine Ev.goto (off := (-55)) (tgt := 68) (by decide +kernel) (by decide) ?_
      have hne : s ≠ fst6 A i j := fun e => hc (by rw [e]; exact f2.1)
      exact ih (s + 1) (by omega) (by omega)

set_option maxRecDepth 100000 in
set_option maxHeartbeats 4000000 in
theorem l_X7_ld2 {sc : Nat × (Nat → Int32)} {d : Nat} (I : Nat → Nat → Int32) (J : Nat → Nat → Int64) (A : zA) (hV : MV (zVm I) A) (hW : WF A) (x : Int32) (hx1 : ¬ x = (-1)) (hx2 : ¬ x = (-2)) (I1 : Nat → Nat → Int32) (J1 : Nat → Nat → Int64) (hs : zS8 I I1) (hJ : zJ8 J J1) (hT : TI A 0 I1 J1) : ∀ (μ : Nat) (i : Nat) (j : Nat) (n : Nat) (f : Nat), f < μ → (i ≤ aa A) → (j ≤ ab A) → ((aa A - i) + (ab A - j) ≤ f) → (f ≤ 24) → (n + f ≤ 24) → ((SQ A).drop n = sq A f i j) → (n ≤ (SQ A).length) → (∀ k, k < n → ¬ nI k = x) →  Ev sc (d + 3) 0 0 mX7_laid 37 [some (.ref 359), some (.int x), some (.int (nI i)), some (.int (nI j)), some (.int (nI n)), none, none] [] (zz_SH, I1, J1) (fun r σ => r = some (.long (Int32.toInt64 (lsp A x))) ∧ ∃ (I' : Nat → Nat → Int32) (J' : Nat → Nat → Int64), zSc I I' ∧ zJ8 J J' ∧ σ = (zz_SH, I', J')) := by
  intro μ
  induction μ with
  | zero => intro i j n f hμ; exact absurd hμ (Nat.not_lt_zero _)
  | succ μ ih =>
    intro i j n f hμ hi hj hf hf2 hnf hsq hnl hnx
    have w1 := hW.1.1
    have w2 := hW.1.2.1
    have l3 := hW.1.2.2
    refine Ev.run [(.iload_n 2, 1), (.aload_n 0, 1), (.getfield 40, 3), (.iconst 0, 1)] (pc' := 43) (L' := [some (.ref 359), some (.int x), some (.int (nI i)), some (.int (nI j)), some (.int (nI n)), none, none]) (S' := [.int (nI 0), .ref 370, .int (nI i)]) rfl (by decide +kernel) rfl ?_
    refine Ev.iald 0 (by decide +kernel) (rfl) (rfl) (by omega) (by first | decide | omega) ?_
    dsimp only
    rw [show I1 370 0 = nI (aa A) from (hs.sc.mv hV).1.2.2.1]
    refine Ev.icmp_lt (off := 13) (tgt := 57) (by decide +kernel) (by decide) (fun h44 => ?_) (fun h44 => ?_)
    · have h44 : i < (aa A) := zz_bL_t (by omega) (by omega) h44
      refine Ev.run [(.bipush 13, 2), (.iload_n 2, 1), (.imul, 1)] (pc' := 61) (L' := [some (.ref 359), some (.int x), some (.int (nI i)), some (.int (nI j)), some (.int (nI n)), none, none]) (S' := [.int (nI 13 * nI i)]) rfl (by decide +kernel) rfl ?_
      rw [pk_mul 13 i]
      refine Ev.run [(.iload_n 3, 1), (.iadd, 1)] (pc' := 63) (L' := [some (.ref 359), some (.int x), some (.int (nI i)), some (.int (nI j)), some (.int (nI n)), none, none]) (S' := [.int (nI (13 * i) + nI j)]) rfl (by decide +kernel) rfl ?_
      rw [nI_add (13 * i) j]
      refine Ev.run [(.istore 5, 2), (.iconst 0, 1), (.istore 6, 2)] (pc' := 68) (L' := [some (.ref 359), some (.int x), some (.int (nI i)), some (.int (nI j)), some (.int (nI n)), some (.int (nI ((13 * i) + j))), some (.int (nI 0))]) (S' := []) rfl (by decide +kernel) rfl ?_
      have hij : i < aa A ∨ j < ab A := Or.inl h44
      obtain ⟨g1, g2, g3⟩ := fst6_spec hW hi hj hij
      have g4 := o_pos (fst6 A i j)
      have g5 := o1_le (fst6 A i j)
      have g6 := o2_le (fst6 A i j)
      have g7 := g2.1
      refine l_X7_ld1 I J A hV hW x hx1 hx2 I1 J1 hs hJ hT i j n hi hj hij ?_ 7 0 (by omega) (by omega)
      show Ev _ _ _ _ _ 126 [some (.ref 359), some (.int x), some (.int (nI i)), some (.int (nI j)), some (.int (nI n)), none, some (.int (nI (fst6 A i j)))] [] (zz_SH, I1, J1) _
      refine Ev.run [(.iload 4, 2), (.iload_n 1, 1)] (pc' := 129) (L' := [some (.ref 359), some (.int x), some (.int (nI i)), some (.int (nI j)), some (.int (nI n)), none, some (.int (nI (fst6 A i j)))]) (S' := [.int x, .int (nI n)]) rfl (by decide +kernel) rfl ?_
      refine Ev.icmp_ne (off := 7) (tgt := 136) (by decide +kernel) (by decide) (fun h129 => ?_) (fun h129 => ?_)
      · refine Ev.run [(.iinc 4 1, 3)] (pc' := 139) (L' := [some (.ref 359), some (.int x), some (.int (nI i)), some (.int (nI j)), some (.int (nI n + 1)), none, some (.int (nI (fst6 A i j)))]) (S' := []) rfl (by decide +kernel) rfl ?_
        rw [nI_1 n]
        refine Ev.run [(.iload_n 2, 1), (.iload 6, 2)] (pc' := 142) (L' := [some (.ref 359), some (.int x), some (.int (nI i)), some (.int (nI j)), some (.int (nI (n + 1))), none, some (.int (nI (fst6 A i j)))]) (S' := [.int (nI (fst6 A i j)), .int (nI i)]) rfl (by decide +kernel) rfl ?_
        refine Ev.callS0 mX7_ofOne [.int (nI (fst6 A i j))] [.int (nI i)] _ rfl lk_RX7_192 (by decide +kernel) rfl (Nat.le_of_ble_eq_true rfl) (c_X7_ofOne I1 J1 (fst6 A i j) (by omega)) ?_
        rintro _ _ ⟨rfl, rfl⟩
        show Ev _ _ _ _ _ 145 [some (.ref 359), some (.int x), some (.int (nI i)), some (.int (nI j)), some (.int (nI (n + 1))), none, some (.int (nI (fst6 A i j)))] [.int (nI (o1 (fst6 A i j))), .int (nI i)] (zz_SH, I1, J1) _
        refine Ev.run [(.iadd, 1)] (pc' := 146) (L' := [some (.ref 359), some (.int x), some (.int (nI i)), some (.int (nI j)), some (.int (nI (n + 1))), none, some (.int (nI (fst6 A i j)))]) (S' := [.int (nI i + nI (o1 (fst6 A i j)))]) rfl (by decide +kernel) rfl ?_
        rw [nI_add i (o1 (fst6 A i j))]
        refine Ev.run [(.istore_n 2, 1), (.iload_n 3, 1), (.iload 6, 2)] (pc' := 150) (L' := [some (.ref 359), some (.int x), some (.int (nI (i + (o1 (fst6 A i j))))), some (.int (nI j)), some (.int (nI (n + 1))), none, some (.int (nI (fst6 A i j)))]) (S' := [.int (nI (fst6 A i j)), .int (nI j)]) rfl (by decide +kernel) rfl ?_
        refine Ev.callS0 mX7_ofOther [.int (nI (fst6 A i j))] [.int (nI j)] _ rfl lk_RX7_195 (by decide +kernel) rfl (Nat.le_of_ble_eq_true rfl) (c_X7_ofOther I1 J1 (fst6 A i j) (by omega)) ?_
        rintro _ _ ⟨rfl, rfl⟩
        show Ev _ _ _ _ _ 153 [some (.ref 359), some (.int x), some (.int (nI (i + (o1 (fst6 A i j))))), some (.int (nI j)), some (.int (nI (n + 1))), none, some (.int (nI (fst6 A i j)))] [.int (nI (o2 (fst6 A i j))), .int (nI j)] (zz_SH, I1, J1) _
        refine Ev.run [(.iadd, 1)] (pc' := 154) (L' := [some (.ref 359), some (.int x), some (.int (nI (i + (o1 (fst6 A i j))))), some (.int (nI j)), some (.int (nI (n + 1))), none, some (.int (nI (fst6 A i j)))]) (S' := [.int (nI j + nI (o2 (fst6 A i j)))]) rfl (by decide +kernel) rfl ?_
        rw [nI_add j (o2 (fst6 A i j))]
        refine Ev.run [(.istore_n 3, 1)] (pc' := 155) (L' := [some (.ref 359), some (.int x), some (.int (nI (i + (o1 (fst6 A i j))))), some (.int (nI (j + (o2 (fst6 A i j))))), some (.int (nI (n + 1))), none, some (.int (nI (fst6 A i j)))]) (S' := []) rfl (by decide +kernel) rfl ?_
        refine Ev.goto (off := (-118)) (tgt := 37) (by decide +kernel) (by decide) ?_
        refine Ev.weakL (L' := [some (.ref 359), some (.int x), some (.int (nI (i + o1 (fst6 A i j)))), some (.int (nI (j + o2 (fst6 A i j)))), some (.int (nI (n + 1))), none, none]) ⟨rfl, rfl, rfl, rfl, rfl, trivial⟩ ?_
        refine ih (i + o1 (fst6 A i j)) (j + o2 (fst6 A i j)) (n + 1) (f - 1) (by omega) g2.1.1 g2.1.2 (by omega) (by omega) (by omega) ?_ ?_ ?_
        · rw [← List.drop_drop, hsq, sq_step (by omega) hij]; rfl
        · have e9 : ((SQ A).drop n).length = ((SQ A).length - n) := List.length_drop
          rw [hsq, sq_step (by omega) hij, List.length_cons] at e9
          omega
        · intro k hk
          by_cases q : k = n
          · rw [q]; exact h129
          · exact hnx k (by omega)
      · refine Ev.run [(.iload 6, 2), (.i2l, 1)] (pc' := 135) (L' := [some (.ref 359), some (.int x), some (.int (nI i)), some (.int (nI j)), some (.int (nI n)), none, some (.int (nI (fst6 A i j)))]) (S' := [.long (Int32.toInt64 (nI (fst6 A i j)))]) rfl (by decide +kernel) rfl ?_
        exact Ev.lret rfl (by decide +kernel) (⟨by
      have e9 : ((SQ A).drop n).length = ((SQ A).length - n) := List.length_drop
      rw [hsq, sq_step (by omega) hij, List.length_cons] at e9
      have e8 : (SQ A).getD n 0 = fst6 A i j := by
        have e7 : ((SQ A).drop n)[0]? = (SQ A)[n + 0]? := List.getElem?_drop
        rw [hsq, sq_step (by omega) hij] at e7
        rw [List.getD_eq_getElem?_getD, show (SQ A)[n]? = some (fst6 A i j) from e7.symm]
        rfl
      rw [← h129, lsp, if_neg (zz_nm3 n (by omega)), nI_clamp (by omega), if_pos ⟨nI_pos (by omega), by omega⟩, e8], I1, J1, hs.sc, hJ, rfl⟩)
    · have h44 : i ≥ (aa A) := zz_bL_f (by omega) (by omega) h44
      refine Ev.run [(.iload_n 3, 1), (.aload_n 0, 1), (.getfield 40, 3), (.iconst 1, 1)] (pc' := 53) (L' := [some (.ref 359), some (.int x), some (.int (nI i)), some (.int (nI j)), some (.int (nI n)), none, none]) (S' := [.int (nI 1), .ref 370, .int (nI j)]) rfl (by decide +kernel) rfl ?_
      refine Ev.iald 1 (by decide +kernel) (rfl) (rfl) (by omega) (by first | decide | omega) ?_
      dsimp only
      rw [show I1 370 1 = nI (ab A) from (hs.sc.mv hV).1.2.2.2]
      refine Ev.icmp_ge (off := 104) (tgt := 158) (by decide +kernel) (by decide) (fun h54 => ?_) (fun h54 => ?_)
      · have h54 : j ≥ (ab A) := zz_bG_t (by omega) (by omega) h54
        refine Ev.run [(.iload_n 1, 1), (.bipush (-3), 2)] (pc' := 161) (L' := [some (.ref 359), some (.int x), some (.int (nI i)), some (.int (nI j)), some (.int (nI n)), none, none]) (S' := [.int ((-3)), .int x]) rfl (by decide +kernel) rfl ?_
        refine Ev.icmp_ne (off := 9) (tgt := 170) (by decide +kernel) (by decide) (fun h161 => ?_) (fun h161 => ?_)
        · refine Ev.ldc2 (idx := 207) (v := (-6)) (by decide +kernel) (by decide +kernel) ?_
          exact Ev.lret rfl (by decide +kernel) (⟨by
      have e9 : ((SQ A).drop n).length = ((SQ A).length - n) := List.length_drop
      rw [hsq, sq_end (by omega)] at e9
      have e8 : (SQ A).length = n := by
        have : (0 : Nat) = (SQ A).length - n := e9
        omega
      rw [lsp, if_neg h161, if_neg (fun q => hnx x.toNatClampNeg (by omega) (zz_ni q.1).symm)]
      rfl, I1, J1, hs.sc, hJ, rfl⟩)
        · refine Ev.run [(.iload 4, 2), (.i2l, 1)] (pc' := 167) (L' := [some (.ref 359), some (.int x), some (.int (nI i)), some (.int (nI j)), some (.int (nI n)), none, none]) (S' := [.long (Int32.toInt64 (nI n))]) rfl (by decide +kernel) rfl ?_
          refine Ev.goto (off := 6) (tgt := 173) (by decide +kernel) (by decide) ?_
          exact Ev.lret rfl (by decide +kernel) (⟨by
      have e9 : ((SQ A).drop n).length = ((SQ A).length - n) := List.length_drop
      rw [hsq, sq_end (by omega)] at e9
      have e8 : (SQ A).length = n := by
        have : (0 : Nat) = (SQ A).length - n := e9
        omega
      rw [lsp, if_pos h161, e8], I1, J1, hs.sc, hJ, rfl⟩)
      · have h54 : j < (ab A) := zz_bG_f (by omega) (by omega) h54
        refine Ev.run [(.bipush 13, 2), (.iload_n 2, 1), (.imul, 1)] (pc' := 61) (L' := [some (.ref 359), some (.int x), some (.int (nI i)), some (.int (nI j)), some (.int (nI n)), none, none]) (S' := [.int (nI 13 * nI i)]) rfl (by decide +kernel) rfl ?_
        rw [pk_mul 13 i]
        refine Ev.run [(.iload_n 3, 1), (.iadd, 1)] (pc' := 63) (L' := [some (.ref 359), some (.int x), some (.int (nI i)), some (.int (nI j)), some (.int (nI n)), none, none]) (S' := [.int (nI (13 * i) + nI j)]) rfl (by decide +kernel) rfl ?_
        rw [nI_add (13 * i) j]
        refine Ev.run [(.istore 5, 2), (.iconst 0, 1), (.istore 6, 2)] (pc' := 68) (L' := [some (.ref 359), some (.int x), some (.int (nI i)), some (.int (nI j)), some (.int (nI n)), some (.int (nI ((13 * i) + j))), some (.int (nI 0))]) (S' := []) rfl (by decide +kernel) rfl ?_
        have hij : i < aa A ∨ j < ab A := Or.inr h54
        obtain ⟨g1, g2, g3⟩ := fst6_spec hW hi hj hij
        have g4 := o_pos (fst6 A i j)
        have g5 := o1_le (fst6 A i j)
        have g6 := o2_le (fst6 A i j)
        have g7 := g2.1
        refine l_X7_ld1 I J A hV hW x hx1 hx2 I1 J1 hs hJ hT i j n hi hj hij ?_ 7 0 (by omega) (by omega)
        show Ev _ _ _ _ _ 126 [some (.ref 359), some (.int x), some (.int (nI i)), some (.int (nI j)), some (.int (nI n)), none, some (.int (nI (fst6 A i j)))] [] (zz_SH, I1, J1) _
        refine Ev.run [(.iload 4, 2), (.iload_n 1, 1)] (pc' := 129) (L' := [some (.ref 359), some (.int x), some (.int (nI i)), some (.int (nI j)), some (.int (nI n)), none, some (.int (nI (fst6 A i j)))]) (S' := [.int x, .int (nI n)]) rfl (by decide +kernel) rfl ?_
        refine Ev.icmp_ne (off := 7) (tgt := 136) (by decide +kernel) (by decide) (fun h129 => ?_) (fun h129 => ?_)
        · refine Ev.run [(.iinc 4 1, 3)] (pc' := 139) (L' := [some (.ref 359), some (.int x), some (.int (nI i)), some (.int (nI j)), some (.int (nI n + 1)), none, some (.int (nI (fst6 A i j)))]) (S' := []) rfl (by decide +kernel) rfl ?_
          rw [nI_1 n]
          refine Ev.run [(.iload_n 2, 1), (.iload 6, 2)] (pc' := 142) (L' := [some (.ref 359), some (.int x), some (.int (nI i)), some (.int (nI j)), some (.int (nI (n + 1))), none, some (.int (nI (fst6 A i j)))]) (S' := [.int (nI (fst6 A i j)), .int (nI i)]) rfl (by decide +kernel) rfl ?_
          refine Ev.callS0 mX7_ofOne [.int (nI (fst6 A i j))] [.int (nI i)] _ rfl lk_RX7_192 (by decide +kernel) rfl (Nat.le_of_ble_eq_true rfl) (c_X7_ofOne I1 J1 (fst6 A i j) (by omega)) ?_
          rintro _ _ ⟨rfl, rfl⟩
          show Ev _ _ _ _ _ 145 [some (.ref 359), some (.int x), some (.int (nI i)), some (.int (nI j)), some (.int (nI (n + 1))), none, some (.int (nI (fst6 A i j)))] [.int (nI (o1 (fst6 A i j))), .int (nI i)] (zz_SH, I1, J1) _
          refine Ev.run [(.iadd, 1)] (pc' := 146) (L' := [some (.ref 359), some (.int x), some (.int (nI i)), some (.int (nI j)), some (.int (nI (n + 1))), none, some (.int (nI (fst6 A i j)))]) (S' := [.int (nI i + nI (o1 (fst6 A i j)))]) rfl (by decide +kernel) rfl ?_
          rw [nI_add i (o1 (fst6 A i j))]
          refine Ev.run [(.istore_n 2, 1), (.iload_n 3, 1), (.iload 6, 2)] (pc' := 150) (L' := [some (.ref 359), some (.int x), some (.int (nI (i + (o1 (fst6 A i j))))), some (.int (nI j)), some (.int (nI (n + 1))), none, some (.int (nI (fst6 A i j)))]) (S' := [.int (nI (fst6 A i j)), .int (nI j)]) rfl (by decide +kernel) rfl ?_
          refine Ev.callS0 mX7_ofOther [.int (nI (fst6 A i j))] [.int (nI j)] _ rfl lk_RX7_195 (by decide +kernel) rfl (Nat.le_of_ble_eq_true rfl) (c_X7_ofOther I1 J1 (fst6 A i j) (by omega)) ?_
          rintro _ _ ⟨rfl, rfl⟩
          show Ev _ _ _ _ _ 153 [some (.ref 359), some (.int x), some (.int (nI (i + (o1 (fst6 A i j))))), some (.int (nI j)), some (.int (nI (n + 1))), none, some (.int (nI (fst6 A i j)))] [.int (nI (o2 (fst6 A i j))), .int (nI j)] (zz_SH, I1, J1) _
          refine Ev.run [(.iadd, 1)] (pc' := 154) (L' := [some (.ref 359), some (.int x), some (.int (nI (i + (o1 (fst6 A i j))))), some (.int (nI j)), some (.int (nI (n + 1))), none, some (.int (nI (fst6 A i j)))]) (S' := [.int (nI j + nI (o2 (fst6 A i j)))]) rfl (by decide +kernel) rfl ?_
          rw [nI_add j (o2 (fst6 A i j))]
          refine Ev.run [(.istore_n 3, 1)] (pc' := 155) (L' := [some (.ref 359), some (.int x), some (.int (nI (i + (o1 (fst6 A i j))))), some (.int (nI (j + (o2 (fst6 A i j))))), some (.int (nI (n + 1))), none, some (.int (nI (fst6 A i j)))]) (S' := []) rfl (by decide +kernel) rfl ?_
          refine Ev.goto (off := (-118)) (tgt := 37) (by decide +kernel) (by decide) ?_
          refine Ev.weakL (L' := [some (.ref 359), some (.int x), some (.int (nI (i + o1 (fst6 A i j)))), some (.int (nI (j + o2 (fst6 A i j)))), some (.int (nI (n + 1))), none, none]) ⟨rfl, rfl, rfl, rfl, rfl, trivial⟩ ?_
          refine ih (i + o1 (fst6 A i j)) (j + o2 (fst6 A i j)) (n + 1) (f - 1) (by omega) g2.1.1 g2.1.2 (by omega) (by omega) (by omega) ?_ ?_ ?_
          · rw [← List.drop_drop, hsq, sq_step (by omega) hij]; rfl
          · have e9 : ((SQ A).drop n).length = ((SQ A).length - n) := List.length_drop
            rw [hsq, sq_step (by omega) hij, List.length_cons] at e9
            omega
          · intro k hk
            by_cases q : k = n
            · rw [q]; exact h129
            · exact hnx k (by omega)
        · refine Ev.run [(.iload 6, 2), (.i2l, 1)] (pc' := 135) (L' := [some (.ref 359), some (.int x), some (.int (nI i)), some (.int (nI j)), some (.int (nI n)), none, some (.int (nI (fst6 A i j)))]) (S' := [.long (Int32.toInt64 (nI (fst6 A i j)))]) rfl (by decide +kernel) rfl ?_
          exact Ev.lret rfl (by decide +kernel) (⟨by
      have e9 : ((SQ A).drop n).length = ((SQ A).length - n) := List.length_drop
      rw [hsq, sq_step (by omega) hij, List.length_cons] at e9
      have e8 : (SQ A).getD n 0 = fst6 A i j := by
        have e7 : ((SQ A).drop n)[0]? = (SQ A)[n + 0]? := List.getElem?_drop
        rw [hsq, sq_step (by omega) hij] at e7
        rw [List.getD_eq_getElem?_getD, show (SQ A)[n]? = some (fst6 A i j) from e7.symm]
        rfl
      rw [← h129, lsp, if_neg (zz_nm3 n (by omega)), nI_clamp (by omega), if_pos ⟨nI_pos (by omega), by omega⟩, e8], I1, J1, hs.sc, hJ, rfl⟩)

set_option maxRecDepth 100000 in
set_option maxHeartbeats 4000000 in
theorem c_X7_laid_x {sc : Nat × (Nat → Int32)} {d : Nat} (I : Nat → Nat → Int32) (J : Nat → Nat → Int64) (A : zA) (hV : MV (zVm I) A) (hW : WF A) (x : Int32) (hx1 : ¬ x = (-1)) (hx2 : ¬ x = (-2)) : EvM sc (d + 3) 0 0 mX7_laid [.ref 359, .int x] (zz_SH, I, J) (fun r σ => r = some (.long (Int32.toInt64 (lsp A x))) ∧ ∃ (I' : Nat → Nat → Int32) (J' : Nat → Nat → Int64), zSc I I' ∧ zJ8 J J' ∧ σ = (zz_SH, I', J')) := by
  have w1 := hW.1.1
  have w2 := hW.1.2.1
  have l3 := hW.1.2.2
  refine EvM.of (by decide) rfl (Nat.le_of_ble_eq_true rfl) ?_
  show Ev _ _ _ _ _ 0 [some (.ref 359), some (.int x), none, none, none, none, none] [] (zz_SH, I, J) _
  refine Ev.run [(.aload_n 0, 1)] (pc' := 1) (L' := [some (.ref 359), some (.int x), none, none, none, none, none]) (S' := [.ref 359]) rfl (by decide +kernel) rfl ?_
  refine Ev.callV0 mX7_layCosts [] [] _ rfl lk_RX7_204 (by decide +kernel) (rfl) rfl rfl rfl (Nat.le_of_ble_eq_true rfl) (c_X7_layCosts I J A hV hW) ?_
  rintro _ _ ⟨rfl, I1, J1, hs, hJ, hT, rfl⟩
  show Ev _ _ _ _ _ 4 [some (.ref 359), some (.int x), none, none, none, none, none] [] (zz_SH, I1, J1) _
  refine Ev.run [(.iload_n 1, 1), (.iconst (-1), 1)] (pc' := 6) (L' := [some (.ref 359), some (.int x), none, none, none, none, none]) (S' := [.int ((-1)), .int x]) rfl (by decide +kernel) rfl ?_
  refine Ev.icmp_ne (off := 11) (tgt := 17) (by decide +kernel) (by decide) (fun h6 => ?_) (fun h6 => absurd h6 hx1)
  refine Ev.run [(.iload_n 1, 1), (.bipush (-2), 2)] (pc' := 20) (L' := [some (.ref 359), some (.int x), none, none, none, none, none]) (S' := [.int ((-2)), .int x]) rfl (by decide +kernel) rfl ?_
  refine Ev.icmp_ne (off := 10) (tgt := 30) (by decide +kernel) (by decide) (fun h20 => ?_) (fun h20 => absurd h20 hx2)
  refine Ev.run [(.iconst 0, 1), (.istore_n 2, 1), (.iconst 0, 1), (.istore_n 3, 1), (.iconst 0, 1), (.istore 4, 2)] (pc' := 37) (L' := [some (.ref 359), some (.int x), some (.int (nI 0)), some (.int (nI 0)), some (.int (nI 0)), none, none]) (S' := []) rfl (by decide +kernel) rfl ?_
  exact l_X7_ld2 I J A hV hW x hx1 hx2 I1 J1 hs hJ hT 25 0 0 0 24 (by omega) (by omega) (by omega) (by omega) (by omega) (by omega) rfl (Nat.zero_le _) (fun k hk => absurd hk (Nat.not_lt_zero k))
