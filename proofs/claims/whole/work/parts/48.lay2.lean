/-! ===== the class: lay, readSteps, laid ===== -/
theorem zz_row357 : zz_row 357 24 := ⟨rfl, rfl, by decide⟩
theorem zz_nm6 (k : Nat) (hk : k < 2 ^ 31) : ¬ nI k = (-6) := by
  intro h
  have h1 := congrArg Int32.toInt h
  rw [nI_toInt hk] at h1
  have h2 : (-6 : Int32).toInt = -6 := by decide
  omega
theorem TBc.up {A : zA} {i j : Nat} {I : Nat → Nat → Int32} {J : Nat → Nat → Int64} (h : TBc A (fun i' j' => i < i' ∨ (i' = i ∧ j < j')) I J) : TBc A (fun i' j' => i < i' ∨ (i' = i ∧ j ≤ j')) (zz_up I (330 + i) j (nI (LT A i j).1)) (zz_upL J (344 + i) j (LT A i j).2) := by
  intro i' j' h1 h2 h3
  have h3 : i < i' ∨ (i' = i ∧ j ≤ j') := h3
  by_cases e : i' = i
  · subst e
    rw [zz_up_eq, zz_upL_eq]
    by_cases e2 : j' = j
    · subst e2
      rw [zz_ups, zz_uLs]
      exact ⟨rfl, rfl⟩
    · rw [zz_upn e2, zz_uLn e2]
      exact h i' j' h1 h2 (by omega)
  · rw [zz_up_ne (by omega), zz_upL_ne (by omega)]
    exact h i' j' h1 h2 (by omega)
theorem zz_lsp {A : zA} {I : Nat → Nat → Int32} {x : Int32} (hx : ¬ x = (-3)) (hrf : zz_rf I 357 (SQ A).length (fun t => (SQ A).getD t 0)) : zz_rat I 357 24 x = lsp A x := by
  have hl : (SQ A).length ≤ 24 := sq_len 24 0 0
  by_cases hy : zz_ix x (SQ A).length
  · obtain ⟨j, hj, rfl⟩ := hy
    rw [zz_rf.at hrf hl (by decide) hj, lsp, if_neg hx, nI_clamp (by omega), if_pos ⟨nI_pos (by omega), hj⟩]
  · rw [zz_rat_no hrf.1 (by omega) hy, lsp, if_neg hx, if_neg (fun q => hy ⟨x.toNatClampNeg, q.2, zz_ni q.1⟩)]

set_option maxRecDepth 100000 in
set_option maxHeartbeats 4000000 in
theorem l_X0_rs {sc : Nat × (Nat → Int32)} {d : Nat} (I : Nat → Nat → Int32) (J : Nat → Nat → Int64) (A : zA) (hC : CR 3 I A) (hW : WF A) (hT : ∀ i' j', i' ≤ aa A → j' ≤ ab A → I (330 + i') j' = nI (LT A i' j').1) : ∀ (μ : Nat) (i : Nat) (j : Nat) (n : Nat) (m : Nat) (f : Nat) (I1 : Nat → Nat → Int32), m < μ → (i ≤ aa A) → (j ≤ ab A) → ((aa A - i) + (ab A - j) ≤ m) → (m ≤ f) → (n + f ≤ 24) → (∀ c, c ≠ 357 → c ≠ 358 → I1 c = I c) → ((SQ A).drop n = sq A f i j) → (n ≤ (SQ A).length) → (zz_rf I1 357 n (fun t => (SQ A).getD t 0)) →  Ev sc (d + 4) 0 0 mX0_readSteps 24 [some (.ref 328), some (.ref 32), some (.ref 34), some (.int (nI i)), some (.int (nI j)), some (.int (nI m)), none] [] (zz_SH, I1, J) (fun r σ => r = none ∧ ∃ I' : Nat → Nat → Int32, (∀ c, c ≠ 357 → c ≠ 358 → I' c = I c) ∧ zz_rf I' 357 (SQ A).length (fun t => (SQ A).getD t 0) ∧ σ = (zz_SH, I', J)) := by
  intro μ
  induction μ with
  | zero => intro i j n m f I1 hμ; exact absurd hμ (Nat.not_lt_zero _)
  | succ μ ih =>
    intro i j n m f I1 hμ hi hj hm hmf hnf hq hsq hnl hrf
    have w1 := hW.1.1
    have w2 := hW.1.2.1
    have l3 := hW.1.2.2
    have hC1 : CR 3 I1 A := hC.fr hW (fun c _ h2 => hq c (by omega) (by omega))
    have hT1 : ∀ i' j', i' ≤ aa A → j' ≤ ab A → I1 (330 + i') j' = nI (LT A i' j').1 := fun i' j' h1 h2 => by rw [hq _ (by omega) (by omega)]; exact hT i' j' h1 h2
    refine Ev.run [(.iload 5, 2)] (pc' := 26) (L' := [some (.ref 328), some (.ref 32), some (.ref 34), some (.int (nI i)), some (.int (nI j)), some (.int (nI m)), none]) (S' := [.int (nI m)]) rfl (by decide +kernel) rfl ?_
    refine Ev.if_le (off := 58) (tgt := 84) (by decide +kernel) (by decide) (fun h26 => ?_) (fun h26 => ?_)
    · have h26 : m ≤ 0 := zz_bG'_t (by omega) (by omega) h26
      have hij : ¬ (i < aa A ∨ j < ab A) := by omega
      have hlen : (SQ A).length = n := by
        have e9 : ((SQ A).drop n).length = (SQ A).length - n := List.length_drop
        rw [hsq, sq_end hij] at e9
        have e8 : (0 : Nat) = (SQ A).length - n := e9
        omega
      exact Ev.vret rfl (by decide +kernel) (⟨rfl, I1, hq, by rw [hlen]; exact hrf, rfl⟩)
    · have h26 : m > 0 := zz_bG'_f (by omega) (by omega) h26
      by_cases hij : i < aa A ∨ j < ab A
      · show Ev _ _ _ _ _ 29 [some (.ref 328), some (.ref 32), some (.ref 34), some (.int (nI i)), some (.int (nI j)), some (.int (nI m)), none] [] (zz_SH, I1, J) _
        refine Ev.run [(.aload_n 0, 1), (.aload_n 1, 1), (.iload_n 3, 1), (.aload_n 2, 1), (.iload 4, 2)] (pc' := 35) (L' := [some (.ref 328), some (.ref 32), some (.ref 34), some (.int (nI i)), some (.int (nI j)), some (.int (nI m)), none]) (S' := [.int (nI j), .ref 34, .int (nI i), .ref 32, .ref 328]) rfl (by decide +kernel) rfl ?_
        refine Ev.callV0 mX0_firstOfLeast [.ref 32, .int (nI i), .ref 34, .int (nI j)] [] _ rfl lk_RX0_74 (by decide +kernel) (rfl) rfl rfl rfl (Nat.le_of_ble_eq_true rfl) (c_X0_firstOfLeast_s I1 J A hC1 hW i j hi hj hT1 hij) ?_
        rintro _ _ ⟨rfl, rfl⟩
        obtain ⟨g1, g2, g3⟩ := fst6_spec hW hi hj hij
        have g4 := o_pos (fst6 A i j)
        have g7 := g2.1
        show Ev _ _ _ _ _ 38 [some (.ref 328), some (.ref 32), some (.ref 34), some (.int (nI i)), some (.int (nI j)), some (.int (nI m)), none] [.int (nI (fst6 A i j))] (zz_SH, I1, J) _
        refine Ev.run [(.istore 6, 2), (.iload 6, 2), (.bipush (-6), 2)] (pc' := 44) (L' := [some (.ref 328), some (.ref 32), some (.ref 34), some (.int (nI i)), some (.int (nI j)), some (.int (nI m)), some (.int (nI (fst6 A i j)))]) (S' := [.int ((-6)), .int (nI (fst6 A i j))]) rfl (by decide +kernel) rfl ?_
        refine Ev.icmp_ne (off := 4) (tgt := 48) (by decide +kernel) (by decide) (fun h44 => ?_) (fun h44 => absurd h44 (zz_nm6 _ (by omega)))
        refine Ev.run [(.aload_n 0, 1), (.getfield 26, 3), (.iload 6, 2)] (pc' := 54) (L' := [some (.ref 328), some (.ref 32), some (.ref 34), some (.int (nI i)), some (.int (nI j)), some (.int (nI m)), some (.int (nI (fst6 A i j)))]) (S' := [.int (nI (fst6 A i j)), .ref 357]) rfl (by decide +kernel) rfl ?_
        refine Ev.callV0 mX4_add [.int (nI (fst6 A i j))] [] _ rfl lk_RX0_78 (by decide +kernel) (rfl) rfl rfl rfl (Nat.le_of_ble_eq_true rfl) (c_X4_add_ok I1 J 357 24 n (nI (fst6 A i j)) zz_row357 hrf.1 (by omega)) ?_
        rintro _ _ ⟨rfl, rfl⟩
        show Ev _ _ _ _ _ 57 [some (.ref 328), some (.ref 32), some (.ref 34), some (.int (nI i)), some (.int (nI j)), some (.int (nI m)), some (.int (nI (fst6 A i j)))] [.int (nI 1)] (zz_SH, zz_up (zz_up I1 (357 + 1) n (nI (fst6 A i j))) 357 1 (nI (n + 1)), J) _
        refine Ev.run [(.pop, 1), (.iload_n 3, 1)] (pc' := 59) (L' := [some (.ref 328), some (.ref 32), some (.ref 34), some (.int (nI i)), some (.int (nI j)), some (.int (nI m)), some (.int (nI (fst6 A i j)))]) (S' := [.int (nI i)]) rfl (by decide +kernel) rfl ?_
        refine Ev.gets (idx := 51) (i0 := 1) (by decide +kernel) (by decide) (by decide) (by decide +kernel) ?_
        refine Ev.run [(.iload 6, 2)] (pc' := 64) (L' := [some (.ref 328), some (.ref 32), some (.ref 34), some (.int (nI i)), some (.int (nI j)), some (.int (nI m)), some (.int (nI (fst6 A i j)))]) (S' := [.int (nI (fst6 A i j)), .ref 100001, .int (nI i)]) rfl (by decide +kernel) rfl ?_
        refine Ev.xldN (i0 := 1) (fst6 A i j) (by decide +kernel) (by decide) (rfl) (show fst6 A i j < 6 by omega) (show 6 < 2 ^ 31 by decide) ?_
        try dsimp only
        try dsimp only
        rw [zz_of1 (by omega)]
        refine Ev.run [(.iadd, 1)] (pc' := 66) (L' := [some (.ref 328), some (.ref 32), some (.ref 34), some (.int (nI i)), some (.int (nI j)), some (.int (nI m)), some (.int (nI (fst6 A i j)))]) (S' := [.int (nI i + nI (o1 (fst6 A i j)))]) rfl (by decide +kernel) rfl ?_
        rw [nI_add i (o1 (fst6 A i j))]
        refine Ev.run [(.istore_n 3, 1), (.iload 4, 2)] (pc' := 69) (L' := [some (.ref 328), some (.ref 32), some (.ref 34), some (.int (nI (i + (o1 (fst6 A i j))))), some (.int (nI j)), some (.int (nI m)), some (.int (nI (fst6 A i j)))]) (S' := [.int (nI j)]) rfl (by decide +kernel) rfl ?_
        refine Ev.gets (idx := 55) (i0 := 2) (by decide +kernel) (by decide) (by decide) (by decide +kernel) ?_
        refine Ev.run [(.iload 6, 2)] (pc' := 74) (L' := [some (.ref 328), some (.ref 32), some (.ref 34), some (.int (nI (i + (o1 (fst6 A i j))))), some (.int (nI j)), some (.int (nI m)), some (.int (nI (fst6 A i j)))]) (S' := [.int (nI (fst6 A i j)), .ref 100002, .int (nI j)]) rfl (by decide +kernel) rfl ?_
        refine Ev.xldN (i0 := 2) (fst6 A i j) (by decide +kernel) (by decide) (rfl) (show fst6 A i j < 6 by omega) (show 6 < 2 ^ 31 by decide) ?_
        try dsimp only
        try dsimp only
        rw [zz_of2 (by omega)]
        refine Ev.run [(.iadd, 1)] (pc' := 76) (L' := [some (.ref 328), some (.ref 32), some (.ref 34), some (.int (nI (i + (o1 (fst6 A i j))))), some (.int (nI j)), some (.int (nI m)), some (.int (nI (fst6 A i j)))]) (S' := [.int (nI j + nI (o2 (fst6 A i j)))]) rfl (by decide +kernel) rfl ?_
        rw [nI_add j (o2 (fst6 A i j))]
        refine Ev.run [(.istore 4, 2), (.iinc 5 (-1), 3)] (pc' := 81) (L' := [some (.ref 328), some (.ref 32), some (.ref 34), some (.int (nI (i + (o1 (fst6 A i j))))), some (.int (nI (j + (o2 (fst6 A i j))))), some (.int (nI m + (-1))), some (.int (nI (fst6 A i j)))]) (S' := []) rfl (by decide +kernel) rfl ?_
        rw [zz_dec (a := m) (by omega)]
        refine Ev.goto (off := (-57)) (tgt := 24) (by decide +kernel) (by decide) ?_
        refine Ev.weakL (L' := [some (.ref 328), some (.ref 32), some (.ref 34), some (.int (nI (i + o1 (fst6 A i j)))), some (.int (nI (j + o2 (fst6 A i j)))), some (.int (nI (m - 1))), none]) ⟨rfl, rfl, rfl, rfl, rfl, rfl, trivial⟩ ?_
        refine ih (i + o1 (fst6 A i j)) (j + o2 (fst6 A i j)) (n + 1) (m - 1) (f - 1) _ (by omega) g2.1.1 g2.1.2 (by omega) (by omega) (by omega) (fun c h1 h2 => by rw [zz_up_ne h1, zz_up_ne h2]; exact hq c h1 h2) ?_ ?_ ⟨by rw [zz_up_eq, zz_ups], fun t ht => ?_⟩
        · rw [← List.drop_drop, hsq, sq_step (by omega) hij]; rfl
        · have e9 : ((SQ A).drop n).length = ((SQ A).length - n) := List.length_drop
          rw [hsq, sq_step (by omega) hij, List.length_cons] at e9
          omega
        · rw [zz_up_ne (by decide), zz_up_eq]
          by_cases e : t = n
          · rw [e, zz_ups]
            have e7 : ((SQ A).drop n)[0]? = (SQ A)[n + 0]? := List.getElem?_drop
            rw [hsq, sq_step (by omega) hij] at e7
            show nI (fst6 A i j) = nI ((SQ A).getD n 0)
            rw [List.getD_eq_getElem?_getD, show (SQ A)[n]? = some (fst6 A i j) from e7.symm]
            rfl
          · rw [zz_upn e]; exact hrf.2 t (by omega)
      · have hlen : (SQ A).length = n := by
          have e9 : ((SQ A).drop n).length = (SQ A).length - n := List.length_drop
          rw [hsq, sq_end hij] at e9
          have e8 : (0 : Nat) = (SQ A).length - n := e9
          omega
        show Ev _ _ _ _ _ 29 [some (.ref 328), some (.ref 32), some (.ref 34), some (.int (nI i)), some (.int (nI j)), some (.int (nI m)), none] [] (zz_SH, I1, J) _
        refine Ev.run [(.aload_n 0, 1), (.aload_n 1, 1), (.iload_n 3, 1), (.aload_n 2, 1), (.iload 4, 2)] (pc' := 35) (L' := [some (.ref 328), some (.ref 32), some (.ref 34), some (.int (nI i)), some (.int (nI j)), some (.int (nI m)), none]) (S' := [.int (nI j), .ref 34, .int (nI i), .ref 32, .ref 328]) rfl (by decide +kernel) rfl ?_
        refine Ev.callV0 mX0_firstOfLeast [.ref 32, .int (nI i), .ref 34, .int (nI j)] [] _ rfl lk_RX0_74 (by decide +kernel) (rfl) rfl rfl rfl (Nat.le_of_ble_eq_true rfl) (c_X0_firstOfLeast_e I1 J A hC1 hW i j hi hj hT1 hij) ?_
        rintro _ _ ⟨rfl, rfl⟩
        show Ev _ _ _ _ _ 38 [some (.ref 328), some (.ref 32), some (.ref 34), some (.int (nI i)), some (.int (nI j)), some (.int (nI m)), none] [.int ((-6))] (zz_SH, I1, J) _
        refine Ev.run [(.istore 6, 2), (.iload 6, 2), (.bipush (-6), 2)] (pc' := 44) (L' := [some (.ref 328), some (.ref 32), some (.ref 34), some (.int (nI i)), some (.int (nI j)), some (.int (nI m)), some (.int ((-6)))]) (S' := [.int ((-6)), .int ((-6))]) rfl (by decide +kernel) rfl ?_
        refine Ev.icmp_ne (off := 4) (tgt := 48) (by decide +kernel) (by decide) (fun h44 => absurd h44 (fun q => q rfl)) (fun h44 => ?_)
        exact Ev.vret rfl (by decide +kernel) (⟨rfl, I1, hq, by rw [hlen]; exact hrf, rfl⟩)

set_option maxRecDepth 100000 in
set_option maxHeartbeats 4000000 in
theorem c_X0_readSteps {sc : Nat × (Nat → Int32)} {d : Nat} (I : Nat → Nat → Int32) (J : Nat → Nat → Int64) (A : zA) (hC : CR 3 I A) (hW : WF A) (hT : ∀ i' j', i' ≤ aa A → j' ≤ ab A → I (330 + i') j' = nI (LT A i' j').1) : EvM sc (d + 4) 0 0 mX0_readSteps [.ref 328, .ref 32, .ref 34] (zz_SH, I, J) (fun r σ => r = none ∧ ∃ I' : Nat → Nat → Int32, (∀ c, c ≠ 357 → c ≠ 358 → I' c = I c) ∧ zz_rf I' 357 (SQ A).length (fun t => (SQ A).getD t 0) ∧ σ = (zz_SH, I', J)) := by
  have w1 := hW.1.1
  have w2 := hW.1.2.1
  have l3 := hW.1.2.2
  refine EvM.of (by decide) rfl (Nat.le_of_ble_eq_true rfl) ?_
  show Ev _ _ _ _ _ 0 [some (.ref 328), some (.ref 32), some (.ref 34), none, none, none, none] [] (zz_SH, I, J) _
  refine Ev.run [(.aload_n 0, 1), (.getfield 26, 3), (.iconst 0, 1)] (pc' := 5) (L' := [some (.ref 328), some (.ref 32), some (.ref 34), none, none, none, none]) (S' := [.int (nI 0), .ref 357]) rfl (by decide +kernel) rfl ?_
  refine Ev.putf (idx := 30) rfl rfl rfl (by decide +kernel) (rfl) rfl ?_
  dsimp only
  refine Ev.run [(.iconst 0, 1), (.istore_n 3, 1), (.iconst 0, 1), (.istore 4, 2), (.aload_n 1, 1), (.getfield 30, 3)] (pc' := 17) (L' := [some (.ref 328), some (.ref 32), some (.ref 34), some (.int (nI 0)), some (.int (nI 0)), none, none]) (S' := [.int ((zz_up I 357 1 (nI 0)) 32 1)]) rfl (by decide +kernel) rfl ?_
  rw [show (zz_up I 357 1 (nI 0)) 32 1 = nI (aa A) from by rw [zz_up_ne (by decide)]; exact hC.1.2.2.2.2.2.1.1]
  refine Ev.run [(.aload_n 2, 1), (.getfield 30, 3)] (pc' := 21) (L' := [some (.ref 328), some (.ref 32), some (.ref 34), some (.int (nI 0)), some (.int (nI 0)), none, none]) (S' := [.int ((zz_up I 357 1 (nI 0)) 34 1), .int (nI (aa A))]) rfl (by decide +kernel) rfl ?_
  rw [show (zz_up I 357 1 (nI 0)) 34 1 = nI (ab A) from by rw [zz_up_ne (by decide)]; exact hC.1.2.2.2.2.2.2.1]
  refine Ev.run [(.iadd, 1)] (pc' := 22) (L' := [some (.ref 328), some (.ref 32), some (.ref 34), some (.int (nI 0)), some (.int (nI 0)), none, none]) (S' := [.int (nI (aa A) + nI (ab A))]) rfl (by decide +kernel) rfl ?_
  rw [nI_add (aa A) (ab A)]
  refine Ev.run [(.istore 5, 2)] (pc' := 24) (L' := [some (.ref 328), some (.ref 32), some (.ref 34), some (.int (nI 0)), some (.int (nI 0)), some (.int (nI ((aa A) + (ab A)))), none]) (S' := []) rfl (by decide +kernel) rfl ?_
  exact l_X0_rs I J A hC hW hT (aa A + ab A + 1) 0 0 0 (aa A + ab A) 24 _ (by omega) (by omega) (by omega) (by omega) (by omega) (by omega) (fun c h1 h2 => zz_up_ne h1) rfl (Nat.zero_le _) ⟨by rw [zz_up_eq, zz_ups], fun t ht => absurd ht (Nat.not_lt_zero t)⟩

set_option maxRecDepth 100000 in
set_option maxHeartbeats 4000000 in
theorem l_X0_ly1 {sc : Nat × (Nat → Int32)} {d : Nat} (I : Nat → Nat → Int32) (J : Nat → Nat → Int64) (A : zA) (hC : CR 3 I A) (hW : WF A) (i : Nat) (hi : i ≤ aa A) (hout : ∀ (I2 : Nat → Nat → Int32) (J2 : Nat → Nat → Int64), zCq I I2 → TBc A (fun i' _ => i ≤ i') I2 J2 → Ev sc (d + 5) 0 0 mX0_lay 35 [some (.ref 328), some (.ref 32), some (.ref 34), some (.int (nI i)), none] [] (zz_SH, I2, J2) (fun r σ => r = none ∧ ∃ (I' : Nat → Nat → Int32) (J' : Nat → Nat → Int64), zCq I I' ∧ TBc A (fun _ _ => True) I' J' ∧ zz_rf I' 357 (SQ A).length (fun t => (SQ A).getD t 0) ∧ σ = (zz_SH, I', J'))) : ∀ (μ : Nat) (j : Nat) (I1 : Nat → Nat → Int32) (J1 : Nat → Nat → Int64), j < μ → (j ≤ ab A) → (zCq I I1) → (TBc A (fun i' j' => i < i' ∨ (i' = i ∧ j < j')) I1 J1) →  Ev sc (d + 5) 0 0 mX0_lay 15 [some (.ref 328), some (.ref 32), some (.ref 34), some (.int (nI i)), some (.int (nI j))] [] (zz_SH, I1, J1) (fun r σ => r = none ∧ ∃ (I' : Nat → Nat → Int32) (J' : Nat → Nat → Int64), zCq I I' ∧ TBc A (fun _ _ => True) I' J' ∧ zz_rf I' 357 (SQ A).length (fun t => (SQ A).getD t 0) ∧ σ = (zz_SH, I', J')) := by
  intro μ
  induction μ with
  | zero => intro j I1 J1 hμ; exact absurd hμ (Nat.not_lt_zero _)
  | succ μ ih =>
    intro j I1 J1 hμ hj hq hT
    have w1 := hW.1.1
    have w2 := hW.1.2.1
    have l3 := hW.1.2.2
    have hC1 := hq.cr hW hC
    refine Ev.run [(.iload 4, 2)] (pc' := 17) (L' := [some (.ref 328), some (.ref 32), some (.ref 34), some (.int (nI i)), some (.int (nI j))]) (S' := [.int (nI j)]) rfl (by decide +kernel) rfl ?_
    refine Ev.if_lt (off := 18) (tgt := 35) (by decide +kernel) (by decide) (fun h17 => ?_) (fun h17 => ?_)
    · have h17 : j < 0 := zz_bL_t (by omega) (by omega) h17
      exfalso; omega
    · have h17 : j ≥ 0 := zz_bL_f (by omega) (by omega) h17
      refine Ev.run [(.aload_n 0, 1), (.aload_n 1, 1), (.iload_n 3, 1), (.aload_n 2, 1), (.iload 4, 2)] (pc' := 26) (L' := [some (.ref 328), some (.ref 32), some (.ref 34), some (.int (nI i)), some (.int (nI j))]) (S' := [.int (nI j), .ref 34, .int (nI i), .ref 32, .ref 328]) rfl (by decide +kernel) rfl ?_
      refine Ev.callV0 mX0_layFrom [.ref 32, .int (nI i), .ref 34, .int (nI j)] [] _ rfl lk_RX0_34 (by decide +kernel) (rfl) rfl rfl rfl (Nat.le_of_ble_eq_true rfl) (c_X0_layFrom I1 J1 A hC1 hW i j hi hj hT) ?_
      rintro _ _ ⟨rfl, rfl⟩
      show Ev _ _ _ _ _ 29 [some (.ref 328), some (.ref 32), some (.ref 34), some (.int (nI i)), some (.int (nI j))] [] (zz_SH, zz_up I1 (330 + i) j (nI (LT A i j).1), zz_upL J1 (344 + i) j (LT A i j).2) _
      refine Ev.run [(.iinc 4 (-1), 3)] (pc' := 32) (L' := [some (.ref 328), some (.ref 32), some (.ref 34), some (.int (nI i)), some (.int (nI j + (-1)))]) (S' := []) rfl (by decide +kernel) rfl ?_
      refine Ev.goto (off := (-17)) (tgt := 15) (by decide +kernel) (by decide) ?_
      have hq2 : zCq I (zz_up I1 (330 + i) j (nI (LT A i j).1)) := hq.tr (fun c hc => zz_up_ne (by omega))
      have hT2 := hT.up
      rcases Nat.eq_zero_or_pos j with hj0 | hj0
      · rw [show nI j + (-1) = (-1) from by rw [hj0]; rfl]
        refine Ev.run [(.iload 4, 2)] (pc' := 17) (L' := [some (.ref 328), some (.ref 32), some (.ref 34), some (.int (nI i)), some (.int ((-1)))]) (S' := [.int ((-1))]) rfl (by decide +kernel) rfl ?_
        refine Ev.if_lt (off := 18) (tgt := 35) (by decide +kernel) (by decide) (fun h17 => ?_) (fun h17 => absurd h17 (by decide))
        refine Ev.weakL (L' := [some (.ref 328), some (.ref 32), some (.ref 34), some (.int (nI i)), none]) ⟨rfl, rfl, rfl, rfl, trivial⟩ ?_
        exact hout _ _ hq2 (fun i1 j1 z1 z2 z3 => hT2 i1 j1 z1 z2 (by have z3 : i ≤ i1 := z3; omega))
      · rw [show nI j + (-1) = nI (j - 1) from by rw [← pk_m1 (j - 1)]; congr 2; omega]
        exact ih (j - 1) _ _ (by omega) (by omega) hq2 (fun i1 j1 z1 z2 z3 => hT2 i1 j1 z1 z2 (by have z3 : i < i1 ∨ (i1 = i ∧ j - 1 < j1) := z3; omega))

set_option maxRecDepth 100000 in
set_option maxHeartbeats 4000000 in
theorem l_X0_ly2 {sc : Nat × (Nat → Int32)} {d : Nat} (I : Nat → Nat → Int32) (J : Nat → Nat → Int64) (A : zA) (hC : CR 3 I A) (hW : WF A) : ∀ (μ : Nat) (i : Nat) (I1 : Nat → Nat → Int32) (J1 : Nat → Nat → Int64), i < μ → (i ≤ aa A) → (zCq I I1) → (TBc A (fun i' _ => i < i') I1 J1) →  Ev sc (d + 5) 0 0 mX0_lay 5 [some (.ref 328), some (.ref 32), some (.ref 34), some (.int (nI i)), none] [] (zz_SH, I1, J1) (fun r σ => r = none ∧ ∃ (I' : Nat → Nat → Int32) (J' : Nat → Nat → Int64), zCq I I' ∧ TBc A (fun _ _ => True) I' J' ∧ zz_rf I' 357 (SQ A).length (fun t => (SQ A).getD t 0) ∧ σ = (zz_SH, I', J')) := by
  intro μ
  induction μ with
  | zero => intro i I1 J1 hμ; exact absurd hμ (Nat.not_lt_zero _)
  | succ μ ih =>
    intro i I1 J1 hμ hi hq hT
    have w1 := hW.1.1
    have w2 := hW.1.2.1
    have l3 := hW.1.2.2
    refine Ev.run [(.iload_n 3, 1)] (pc' := 6) (L' := [some (.ref 328), some (.ref 32), some (.ref 34), some (.int (nI i)), none]) (S' := [.int (nI i)]) rfl (by decide +kernel) rfl ?_
    refine Ev.if_lt (off := 35) (tgt := 41) (by decide +kernel) (by decide) (fun h6 => ?_) (fun h6 => ?_)
    · have h6 : i < 0 := zz_bL_t (by omega) (by omega) h6
      exfalso; omega
    · have h6 : i ≥ 0 := zz_bL_f (by omega) (by omega) h6
      refine Ev.run [(.aload_n 2, 1), (.getfield 30, 3)] (pc' := 13) (L' := [some (.ref 328), some (.ref 32), some (.ref 34), some (.int (nI i)), none]) (S' := [.int (I1 34 1)]) rfl (by decide +kernel) rfl ?_
      rw [show I1 34 1 = nI (ab A) from (hq.cr hW hC).1.2.2.2.2.2.2.1]
      refine Ev.run [(.istore 4, 2)] (pc' := 15) (L' := [some (.ref 328), some (.ref 32), some (.ref 34), some (.int (nI i)), some (.int (nI (ab A)))]) (S' := []) rfl (by decide +kernel) rfl ?_
      refine l_X0_ly1 I J A hC hW i hi ?_ (ab A + 1) (ab A) I1 J1 (by omega) (by omega) hq (fun i1 j1 z1 z2 z3 => hT i1 j1 z1 z2 (by have z3 : i < i1 ∨ (i1 = i ∧ ab A < j1) := z3; show i < i1; omega))
      intro I2 J2 hq2 hT2
      show Ev _ _ _ _ _ 35 [some (.ref 328), some (.ref 32), some (.ref 34), some (.int (nI i)), none] [] (zz_SH, I2, J2) _
      refine Ev.run [(.iinc 3 (-1), 3)] (pc' := 38) (L' := [some (.ref 328), some (.ref 32), some (.ref 34), some (.int (nI i + (-1))), none]) (S' := []) rfl (by decide +kernel) rfl ?_
      refine Ev.goto (off := (-33)) (tgt := 5) (by decide +kernel) (by decide) ?_
      rcases Nat.eq_zero_or_pos i with hi0 | hi0
      · have hT3 : TBc A (fun _ _ => True) I2 J2 := fun i1 j1 z1 z2 _ => hT2 i1 j1 z1 z2 (by show i ≤ i1; omega)
        rw [show nI i + (-1) = (-1) from by rw [hi0]; rfl]
        refine Ev.run [(.iload_n 3, 1)] (pc' := 6) (L' := [some (.ref 328), some (.ref 32), some (.ref 34), some (.int ((-1))), none]) (S' := [.int ((-1))]) rfl (by decide +kernel) rfl ?_
        refine Ev.if_lt (off := 35) (tgt := 41) (by decide +kernel) (by decide) (fun h6 => ?_) (fun h6 => absurd h6 (by decide))
        refine Ev.run [(.aload_n 0, 1), (.aload_n 1, 1), (.aload_n 2, 1)] (pc' := 44) (L' := [some (.ref 328), some (.ref 32), some (.ref 34), some (.int ((-1))), none]) (S' := [.ref 34, .ref 32, .ref 328]) rfl (by decide +kernel) rfl ?_
        refine Ev.callV0 mX0_readSteps [.ref 32, .ref 34] [] _ rfl lk_RX0_38 (by decide +kernel) (rfl) rfl rfl rfl (Nat.le_of_ble_eq_true rfl) (c_X0_readSteps I2 J2 A (hq2.cr hW hC) hW (fun i' j' h1 h2 => (hT3 i' j' h1 h2 trivial).1)) ?_
        rintro _ _ ⟨rfl, I3, hq3, hrf3, rfl⟩
        show Ev _ _ _ _ _ 47 [some (.ref 328), some (.ref 32), some (.ref 34), some (.int ((-1))), none] [] (zz_SH, I3, J2) _
        exact Ev.vret rfl (by decide +kernel) (⟨rfl, I3, J2, hq2.tr (fun c hc => hq3 c (by omega) (by omega)), fun i' j' h1 h2 h3 => by rw [hq3 _ (by omega) (by omega)]; exact hT3 i' j' h1 h2 h3, hrf3, rfl⟩)
      · rw [show nI i + (-1) = nI (i - 1) from by rw [← pk_m1 (i - 1)]; congr 2; omega]
        exact ih (i - 1) I2 J2 (by omega) (by omega) hq2 (fun i1 j1 z1 z2 z3 => hT2 i1 j1 z1 z2 (by have z3 : i - 1 < i1 := z3; show i ≤ i1; omega))

set_option maxRecDepth 100000 in
set_option maxHeartbeats 4000000 in
theorem c_X0_lay {sc : Nat × (Nat → Int32)} {d : Nat} (I : Nat → Nat → Int32) (J : Nat → Nat → Int64) (A : zA) (hC : CR 3 I A) (hW : WF A) : EvM sc (d + 5) 0 0 mX0_lay [.ref 328, .ref 32, .ref 34] (zz_SH, I, J) (fun r σ => r = none ∧ ∃ (I' : Nat → Nat → Int32) (J' : Nat → Nat → Int64), zCq I I' ∧ TBc A (fun _ _ => True) I' J' ∧ zz_rf I' 357 (SQ A).length (fun t => (SQ A).getD t 0) ∧ σ = (zz_SH, I', J')) := by
  have w1 := hW.1.1
  have w2 := hW.1.2.1
  have l3 := hW.1.2.2
  refine EvM.of (by decide) rfl (Nat.le_of_ble_eq_true rfl) ?_
  show Ev _ _ _ _ _ 0 [some (.ref 328), some (.ref 32), some (.ref 34), none, none] [] (zz_SH, I, J) _
  refine Ev.run [(.aload_n 1, 1), (.getfield 30, 3)] (pc' := 4) (L' := [some (.ref 328), some (.ref 32), some (.ref 34), none, none]) (S' := [.int (I 32 1)]) rfl (by decide +kernel) rfl ?_
  rw [show I 32 1 = nI (aa A) from hC.1.2.2.2.2.2.1.1]
  refine Ev.run [(.istore_n 3, 1)] (pc' := 5) (L' := [some (.ref 328), some (.ref 32), some (.ref 34), some (.int (nI (aa A))), none]) (S' := []) rfl (by decide +kernel) rfl ?_
  exact l_X0_ly2 I J A hC hW (aa A + 1) (aa A) I J (by omega) (by omega) (zCq.rf I) (fun i1 j1 z1 z2 z3 => absurd z3 (by show ¬ aa A < i1; omega))

set_option maxRecDepth 100000 in
set_option maxHeartbeats 4000000 in
theorem c_X6_laid_c {sc : Nat × (Nat → Int32)} {d : Nat} (I : Nat → Nat → Int32) (J : Nat → Nat → Int64) (A : zA) (hC : CR 3 I A) (hW : WF A) : EvM sc (d + 6) 0 0 mX6_laid [.ref 0, .int ((-1))] (zz_SH, I, J) (fun r σ => r = some (.long (Int32.toInt64 (nI (LT A 0 0).1))) ∧ ∃ (I' : Nat → Nat → Int32) (J' : Nat → Nat → Int64), zCq I I' ∧ σ = (zz_SH, I', J')) := by
  have w1 := hW.1.1
  have w2 := hW.1.2.1
  have l3 := hW.1.2.2
  refine EvM.of (by decide) rfl (Nat.le_of_ble_eq_true rfl) ?_
  show Ev _ _ _ _ _ 0 [some (.ref 0), some (.int ((-1)))] [] (zz_SH, I, J) _
  refine Ev.run [(.aload_n 0, 1), (.getfield 50, 3), (.aload_n 0, 1), (.getfield 21, 3), (.getfield 204, 3), (.aload_n 0, 1), (.getfield 21, 3), (.getfield 207, 3)] (pc' := 18) (L' := [some (.ref 0), some (.int ((-1)))]) (S' := [.ref 34, .ref 32, .ref 328]) rfl (by decide +kernel) rfl ?_
  refine Ev.callV0 mX0_lay [.ref 32, .ref 34] [] _ rfl lk_RX6_210 (by decide +kernel) (rfl) rfl rfl rfl (Nat.le_of_ble_eq_true rfl) (c_X0_lay I J A hC hW) ?_
  rintro _ _ ⟨rfl, I1, J1, hq, hT, hrf, rfl⟩
  show Ev _ _ _ _ _ 21 [some (.ref 0), some (.int ((-1)))] [] (zz_SH, I1, J1) _
  refine Ev.run [(.iload_n 1, 1)] (pc' := 22) (L' := [some (.ref 0), some (.int ((-1)))]) (S' := [.int ((-1))]) rfl (by decide +kernel) rfl ?_
  refine Ev.tblIn (dflt := 63) (lo := (-3)) (hi := (-1)) (offs := #[51, 39, 26]) (len := 26) (off := 26) (tgt := 48) (by decide +kernel) (by decide) (by decide) (by decide) (by decide) ?_
  refine Ev.run [(.aload_n 0, 1), (.getfield 50, 3), (.getfield 214, 3), (.iconst 0, 1)] (pc' := 56) (L' := [some (.ref 0), some (.int ((-1)))]) (S' := [.int (nI 0), .ref 329]) rfl (by decide +kernel) rfl ?_
  refine Ev.aald 0 (by decide +kernel) rfl (by decide) rfl (by decide) (by decide) rfl ?_
  refine Ev.run [(.iconst 0, 1)] (pc' := 58) (L' := [some (.ref 0), some (.int ((-1)))]) (S' := [.int (nI 0), .ref 330]) rfl (by decide +kernel) rfl ?_
  refine Ev.iald 0 (by decide +kernel) (rfl) (rfl) (by omega) (by first | decide | omega) ?_
  try dsimp only
  rw [show I1 330 0 = nI (LT A 0 0).1 from (hT 0 0 (Nat.zero_le _) (Nat.zero_le _) trivial).1]
  refine Ev.run [(.i2l, 1)] (pc' := 60) (L' := [some (.ref 0), some (.int ((-1)))]) (S' := [.long (Int32.toInt64 (nI ((LT A 0 0).1)))]) rfl (by decide +kernel) rfl ?_
  exact Ev.lret rfl (by decide +kernel) (⟨rfl, I1, J1, hq, rfl⟩)

set_option maxRecDepth 100000 in
set_option maxHeartbeats 4000000 in
theorem c_X6_laid_w {sc : Nat × (Nat → Int32)} {d : Nat} (I : Nat → Nat → Int32) (J : Nat → Nat → Int64) (A : zA) (hC : CR 3 I A) (hW : WF A) : EvM sc (d + 6) 0 0 mX6_laid [.ref 0, .int ((-2))] (zz_SH, I, J) (fun r σ => r = some (.long ((LT A 0 0).2)) ∧ ∃ (I' : Nat → Nat → Int32) (J' : Nat → Nat → Int64), zCq I I' ∧ σ = (zz_SH, I', J')) := by
  have w1 := hW.1.1
  have w2 := hW.1.2.1
  have l3 := hW.1.2.2
  refine EvM.of (by decide) rfl (Nat.le_of_ble_eq_true rfl) ?_
  show Ev _ _ _ _ _ 0 [some (.ref 0), some (.int ((-2)))] [] (zz_SH, I, J) _
  refine Ev.run [(.aload_n 0, 1), (.getfield 50, 3), (.aload_n 0, 1), (.getfield 21, 3), (.getfield 204, 3), (.aload_n 0, 1), (.getfield 21, 3), (.getfield 207, 3)] (pc' := 18) (L' := [some (.ref 0), some (.int ((-2)))]) (S' := [.ref 34, .ref 32, .ref 328]) rfl (by decide +kernel) rfl ?_
  refine Ev.callV0 mX0_lay [.ref 32, .ref 34] [] _ rfl lk_RX6_210 (by decide +kernel) (rfl) rfl rfl rfl (Nat.le_of_ble_eq_true rfl) (c_X0_lay I J A hC hW) ?_
  rintro _ _ ⟨rfl, I1, J1, hq, hT, hrf, rfl⟩
  show Ev _ _ _ _ _ 21 [some (.ref 0), some (.int ((-2)))] [] (zz_SH, I1, J1) _
  refine Ev.run [(.iload_n 1, 1)] (pc' := 22) (L' := [some (.ref 0), some (.int ((-2)))]) (S' := [.int ((-2))]) rfl (by decide +kernel) rfl ?_
  refine Ev.tblIn (dflt := 63) (lo := (-3)) (hi := (-1)) (offs := #[51, 39, 26]) (len := 26) (off := 39) (tgt := 61) (by decide +kernel) (by decide) (by decide) (by decide) (by decide) ?_
  refine Ev.run [(.aload_n 0, 1), (.getfield 50, 3), (.getfield 217, 3), (.iconst 0, 1)] (pc' := 69) (L' := [some (.ref 0), some (.int ((-2)))]) (S' := [.int (nI 0), .ref 343]) rfl (by decide +kernel) rfl ?_
  refine Ev.aald 0 (by decide +kernel) rfl (by decide) rfl (by decide) (by decide) rfl ?_
  refine Ev.run [(.iconst 0, 1)] (pc' := 71) (L' := [some (.ref 0), some (.int ((-2)))]) (S' := [.int (nI 0), .ref 344]) rfl (by decide +kernel) rfl ?_
  refine Ev.lald 0 (by decide +kernel) (rfl) (rfl) (by omega) (by first | decide | omega) ?_
  try dsimp only
  rw [show J1 344 0 = (LT A 0 0).2 from (hT 0 0 (Nat.zero_le _) (Nat.zero_le _) trivial).2]
  exact Ev.lret rfl (by decide +kernel) (⟨rfl, I1, J1, hq, rfl⟩)

set_option maxRecDepth 100000 in
set_option maxHeartbeats 4000000 in
theorem c_X6_laid_3 {sc : Nat × (Nat → Int32)} {d : Nat} (I : Nat → Nat → Int32) (J : Nat → Nat → Int64) (A : zA) (hC : CR 3 I A) (hW : WF A) : EvM sc (d + 6) 0 0 mX6_laid [.ref 0, .int ((-3))] (zz_SH, I, J) (fun r σ => r = some (.long (Int32.toInt64 (lsp A (-3)))) ∧ ∃ (I' : Nat → Nat → Int32) (J' : Nat → Nat → Int64), zCq I I' ∧ σ = (zz_SH, I', J')) := by
  have w1 := hW.1.1
  have w2 := hW.1.2.1
  have l3 := hW.1.2.2
  refine EvM.of (by decide) rfl (Nat.le_of_ble_eq_true rfl) ?_
  show Ev _ _ _ _ _ 0 [some (.ref 0), some (.int ((-3)))] [] (zz_SH, I, J) _
  refine Ev.run [(.aload_n 0, 1), (.getfield 50, 3), (.aload_n 0, 1), (.getfield 21, 3), (.getfield 204, 3), (.aload_n 0, 1), (.getfield 21, 3), (.getfield 207, 3)] (pc' := 18) (L' := [some (.ref 0), some (.int ((-3)))]) (S' := [.ref 34, .ref 32, .ref 328]) rfl (by decide +kernel) rfl ?_
  refine Ev.callV0 mX0_lay [.ref 32, .ref 34] [] _ rfl lk_RX6_210 (by decide +kernel) (rfl) rfl rfl rfl (Nat.le_of_ble_eq_true rfl) (c_X0_lay I J A hC hW) ?_
  rintro _ _ ⟨rfl, I1, J1, hq, hT, hrf, rfl⟩
  show Ev _ _ _ _ _ 21 [some (.ref 0), some (.int ((-3)))] [] (zz_SH, I1, J1) _
  refine Ev.run [(.iload_n 1, 1)] (pc' := 22) (L' := [some (.ref 0), some (.int ((-3)))]) (S' := [.int ((-3))]) rfl (by decide +kernel) rfl ?_
  refine Ev.tblIn (dflt := 63) (lo := (-3)) (hi := (-1)) (offs := #[51, 39, 26]) (len := 26) (off := 51) (tgt := 73) (by decide +kernel) (by decide) (by decide) (by decide) (by decide) ?_
  refine Ev.run [(.aload_n 0, 1), (.getfield 50, 3), (.getfield 221, 3), (.getfield 58, 3)] (pc' := 83) (L' := [some (.ref 0), some (.int ((-3)))]) (S' := [.int (I1 357 1)]) rfl (by decide +kernel) rfl ?_
  rw [show I1 357 1 = lsp A (-3) from by rw [lsp, if_pos rfl]; exact hrf.1]
  refine Ev.run [(.i2l, 1)] (pc' := 84) (L' := [some (.ref 0), some (.int ((-3)))]) (S' := [.long (Int32.toInt64 (lsp A (-3)))]) rfl (by decide +kernel) rfl ?_
  exact Ev.lret rfl (by decide +kernel) (⟨rfl, I1, J1, hq, rfl⟩)

set_option maxRecDepth 100000 in
set_option maxHeartbeats 4000000 in
theorem c_X6_laid_d {sc : Nat × (Nat → Int32)} {d : Nat} (I : Nat → Nat → Int32) (J : Nat → Nat → Int64) (A : zA) (hC : CR 3 I A) (hW : WF A) (x : Int32) (hx1 : ¬ x = (-1)) (hx2 : ¬ x = (-2)) (hx3 : ¬ x = (-3)) : EvM sc (d + 6) 0 0 mX6_laid [.ref 0, .int x] (zz_SH, I, J) (fun r σ => r = some (.long (Int32.toInt64 (lsp A x))) ∧ ∃ (I' : Nat → Nat → Int32) (J' : Nat → Nat → Int64), zCq I I' ∧ σ = (zz_SH, I', J')) := by
  have w1 := hW.1.1
  have w2 := hW.1.2.1
  have l3 := hW.1.2.2
  have e1 : x.toInt ≠ -1 := fun h => hx1 (Int32.toInt_inj.mp (h.trans (by decide)))
  have e2 : x.toInt ≠ -2 := fun h => hx2 (Int32.toInt_inj.mp (h.trans (by decide)))
  have e3 : x.toInt ≠ -3 := fun h => hx3 (Int32.toInt_inj.mp (h.trans (by decide)))
  refine EvM.of (by decide) rfl (Nat.le_of_ble_eq_true rfl) ?_
  show Ev _ _ _ _ _ 0 [some (.ref 0), some (.int x)] [] (zz_SH, I, J) _
  refine Ev.run [(.aload_n 0, 1), (.getfield 50, 3), (.aload_n 0, 1), (.getfield 21, 3), (.getfield 204, 3), (.aload_n 0, 1), (.getfield 21, 3), (.getfield 207, 3)] (pc' := 18) (L' := [some (.ref 0), some (.int x)]) (S' := [.ref 34, .ref 32, .ref 328]) rfl (by decide +kernel) rfl ?_
  refine Ev.callV0 mX0_lay [.ref 32, .ref 34] [] _ rfl lk_RX6_210 (by decide +kernel) (rfl) rfl rfl rfl (Nat.le_of_ble_eq_true rfl) (c_X0_lay I J A hC hW) ?_
  rintro _ _ ⟨rfl, I1, J1, hq, hT, hrf, rfl⟩
  show Ev _ _ _ _ _ 21 [some (.ref 0), some (.int x)] [] (zz_SH, I1, J1) _
  refine Ev.run [(.iload_n 1, 1)] (pc' := 22) (L' := [some (.ref 0), some (.int x)]) (S' := [.int x]) rfl (by decide +kernel) rfl ?_
  refine Ev.tblOut (dflt := 63) (lo := (-3)) (hi := (-1)) (offs := #[51, 39, 26]) (len := 26) (tgt := 85) (by decide +kernel) (by omega) (by decide) ?_
  refine Ev.run [(.aload_n 0, 1), (.getfield 50, 3), (.getfield 221, 3), (.iload_n 1, 1)] (pc' := 93) (L' := [some (.ref 0), some (.int x)]) (S' := [.int x, .ref 357]) rfl (by decide +kernel) rfl ?_
  refine Ev.callV0 mX4_at [.int x] [] _ rfl lk_RX6_107 (by decide +kernel) (rfl) rfl rfl rfl (Nat.le_of_ble_eq_true rfl) (c_X4_at I1 J1 357 24 x zz_row357) ?_
  rintro _ _ ⟨rfl, rfl⟩
  rw [zz_lsp hx3 hrf]
  show Ev _ _ _ _ _ 96 [some (.ref 0), some (.int x)] [.int (lsp A x)] (zz_SH, I1, J1) _
  refine Ev.run [(.i2l, 1)] (pc' := 97) (L' := [some (.ref 0), some (.int x)]) (S' := [.long (Int32.toInt64 (lsp A x))]) rfl (by decide +kernel) rfl ?_
  exact Ev.lret rfl (by decide +kernel) (⟨rfl, I1, J1, hq, rfl⟩)
