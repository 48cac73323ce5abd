/-! ===== the model: layCosts ===== -/
theorem zz_uLs {f : Nat → Int64} {k : Nat} {x : Int64} : vp_updL f k x k = x := pk_uLs
theorem zz_uLn {f : Nat → Int64} {k j : Nat} {x : Int64} (h : j ≠ k) : vp_updL f k x j = f j := pk_uLn h
def zS8 (I I' : Nat → Nat → Int32) : Prop := ∀ c, c ≠ 377 → I' c = I c
theorem zS8.tr {I I' I'' : Nat → Nat → Int32} (h : zS8 I I') (h' : zS8 I' I'') : zS8 I I'' := fun c hc => (h' c hc).trans (h c hc)
theorem zS8.up (I : Nat → Nat → Int32) (j : Nat) (v : Int32) : zS8 I (zz_up I 377 j v) := fun c hc => zz_up_ne hc
theorem zS8.sc {I I' : Nat → Nat → Int32} (h : zS8 I I') : zSc I I' := ⟨fun c hc => h c (by omega), h 360 (by decide), fun c h1 h2 => h c (by omega), h 379 (by decide), h 380 (by decide), by rw [h 359 (by decide)], by rw [h 359 (by decide)], by rw [h 359 (by decide)]⟩
def zJ8 (J J' : Nat → Nat → Int64) : Prop := ∀ c, c ≠ 378 → J' c = J c
theorem zJ8.tr {I I' I'' : Nat → Nat → Int64} (h : zJ8 I I') (h' : zJ8 I' I'') : zJ8 I I'' := fun c hc => (h' c hc).trans (h c hc)
theorem zJ8.up (J : Nat → Nat → Int64) (j : Nat) (v : Int64) : zJ8 J (zz_upL J 378 j v) := fun c hc => zz_upL_ne hc
/-- what is laid behind a place -/
def TB (A : zA) (i j : Nat) (I : Nat → Nat → Int32) (J : Nat → Nat → Int64) : Prop := ∀ i' j', i' ≤ aa A → j' ≤ ab A → (i < i' ∨ (i' = i ∧ j < j')) → I 377 (13 * i' + j') = nI (LT A i' j').1 ∧ J 378 (13 * i' + j') = (LT A i' j').2
def TI (A : zA) (i : Nat) (I : Nat → Nat → Int32) (J : Nat → Nat → Int64) : Prop := ∀ i' j', i' ≤ aa A → j' ≤ ab A → i ≤ i' → I 377 (13 * i' + j') = nI (LT A i' j').1 ∧ J 378 (13 * i' + j') = (LT A i' j').2
theorem TB.up {A : zA} {i j : Nat} {I : Nat → Nat → Int32} {J : Nat → Nat → Int64} (h : TB A i j I J) (v : Int32) (hb : ab A ≤ 12) (hj : j ≤ 12) : TB A i j (zz_up I 377 (13 * i + j) v) J := by
  intro i' j' h1 h2 h3
  have := h i' j' h1 h2 h3
  rw [zz_up_eq, zz_upn (by omega)]
  exact this
theorem TB.upL {A : zA} {i j : Nat} {I : Nat → Nat → Int32} {J : Nat → Nat → Int64} (h : TB A i j I J) (v : Int64) (hb : ab A ≤ 12) (hj : j ≤ 12) : TB A i j I (zz_upL J 378 (13 * i + j) v) := by
  intro i' j' h1 h2 h3
  have := h i' j' h1 h2 h3
  rw [zz_upL_eq, zz_uLn (by omega)]
  exact this

set_option maxRecDepth 100000 in
set_option maxHeartbeats 4000000 in
theorem l_X7_lc1 {sc : Nat × (Nat → Int32)} {d : Nat} (I : Nat → Nat → Int32) (J : Nat → Nat → Int64) (A : zA) (hV : MV (zVm I) A) (hW : WF A) (i j : Nat) (hi : i ≤ aa A) (hj : j ≤ ab A) (hout : ∀ (I2 : Nat → Nat → Int32) (J2 : Nat → Nat → Int64), zS8 I I2 → zJ8 J J2 → (∀ i1 j1, i1 ≤ aa A → j1 ≤ ab A → (i < i1 ∨ (i1 = i ∧ j ≤ j1)) → I2 377 (13 * i1 + j1) = nI (LT A i1 j1).1 ∧ J2 378 (13 * i1 + j1) = (LT A i1 j1).2) → Ev sc (d + 2) 0 0 mX7_layCosts 221 [some (.ref 359), some (.int (nI i)), some (.int (nI j)), none, none, none, none, none] [] (zz_SH, I2, J2) (fun r σ => r = none ∧ ∃ (I' : Nat → Nat → Int32) (J' : Nat → Nat → Int64), zS8 I I' ∧ zJ8 J J' ∧ TI A 0 I' J' ∧ σ = (zz_SH, I', J'))) : ∀ (μ : Nat) (s : Nat) (I1 : Nat → Nat → Int32) (J1 : Nat → Nat → Int64), 6 - s < μ → (s ≤ 6) → (zS8 I I1) → (zJ8 J J1) → (TB A i j I1 J1) → (I1 377 (13 * i + j) = nI (fd A (LT A) i j s).1) → (J1 378 (13 * i + j) = (fd A (LT A) i j s).2) →  Ev sc (d + 2) 0 0 mX7_layCosts 92 [some (.ref 359), some (.int (nI i)), some (.int (nI j)), some (.int (nI (13 * i + j))), none, some (.int (nI s)), none, none] [] (zz_SH, I1, J1) (fun r σ => r = none ∧ ∃ (I' : Nat → Nat → Int32) (J' : Nat → Nat → Int64), zS8 I I' ∧ zJ8 J J' ∧ TI A 0 I' J' ∧ σ = (zz_SH, I', J')) := by
  intro μ
  induction μ with
  | zero => intro s I1 J1 hμ; exact absurd hμ (Nat.not_lt_zero _)
  | succ μ ih =>
    intro s I1 J1 hμ hs5 hs hJ hT h1 h2
    have w1 := hW.1.1
    have w2 := hW.1.2.1
    have l3 := hW.1.2.2
    have q0 := fd_le0 (A := A) (T := LT A) (i := i) (j := j) s
    have l1 := o1_le s
    have l2 := o2_le s
    have hj12 : j ≤ 12 := by omega
    refine Ev.run [(.iload 5, 2), (.bipush 6, 2)] (pc' := 96) (L' := [some (.ref 359), some (.int (nI i)), some (.int (nI j)), some (.int (nI (13 * i + j))), none, some (.int (nI s)), none, none]) (S' := [.int (nI 6), .int (nI s)]) rfl (by decide +kernel) rfl ?_
    refine Ev.icmp_ge (off := 125) (tgt := 221) (by decide +kernel) (by decide) (fun h96 => ?_) (fun h96 => ?_)
    · have h96 : s ≥ 6 := zz_bG_t (by omega) (by omega) h96
      have hs6 : s = 6 := by omega
      refine Ev.weakL (L' := [some (.ref 359), some (.int (nI i)), some (.int (nI j)), none, none, none, none, none]) ⟨rfl, rfl, rfl, trivial⟩ ?_
      rw [hs6] at h1 h2
      refine hout I1 J1 hs hJ (fun i1 j1 z1 z2 z3 => ?_)
      by_cases q : i1 = i ∧ j1 = j
      · rw [q.1, q.2, LT_rec hW]; exact ⟨h1, h2⟩
      · exact hT i1 j1 z1 z2 (by omega)
    · have h96 : s < 6 := zz_bG_f (by omega) (by omega) h96
      by_cases hc : i + o1 s ≤ aa A ∧ j + o2 s ≤ ab A
      · show Ev _ _ _ _ _ 99 [some (.ref 359), some (.int (nI i)), some (.int (nI j)), some (.int (nI (13 * i + j))), none, some (.int (nI s)), none, none] [] (zz_SH, I1, J1) _
        refine Ev.run [(.aload_n 0, 1), (.iload 5, 2), (.iload_n 1, 1), (.iload_n 2, 1)] (pc' := 104) (L' := [some (.ref 359), some (.int (nI i)), some (.int (nI j)), some (.int (nI (13 * i + j))), none, some (.int (nI s)), none, none]) (S' := [.int (nI j), .int (nI i), .int (nI s), .ref 359]) rfl (by decide +kernel) rfl ?_
        refine Ev.callV0 mX7_stepCosts [.int (nI s), .int (nI i), .int (nI j)] [] _ rfl lk_RX7_201 (by decide +kernel) (rfl) rfl rfl rfl (Nat.le_of_ble_eq_true rfl) (c_X7_stepCosts_s I1 J1 A (hs.sc.mv hV) hW s i j (by omega) (by omega) (by omega) hc) ?_
        rintro _ _ ⟨rfl, rfl⟩
        have q1 := stv_le hW hc
        have q2 := LT_b hW hc.1 hc.2
        have hto := hT (i + o1 s) (j + o2 s) hc.1 hc.2 (by have := o_pos s; omega)
        show Ev _ _ _ _ _ 107 [some (.ref 359), some (.int (nI i)), some (.int (nI j)), some (.int (nI (13 * i + j))), none, some (.int (nI s)), none, none] [.int (nI (stv A s i j))] (zz_SH, I1, J1) _
        refine Ev.run [(.istore 6, 2), (.iload 6, 2)] (pc' := 111) (L' := [some (.ref 359), some (.int (nI i)), some (.int (nI j)), some (.int (nI (13 * i + j))), none, some (.int (nI s)), some (.int (nI (stv A s i j))), none]) (S' := [.int (nI (stv A s i j))]) rfl (by decide +kernel) rfl ?_
        refine Ev.if_lt (off := 104) (tgt := 215) (by decide +kernel) (by decide) (fun h111 => ?_) (fun h111 => ?_)
        · have h111 : (stv A s i j) < 0 := zz_bL_t (by omega) (by omega) h111
          exfalso; omega
        · have h111 : (stv A s i j) ≥ 0 := zz_bL_f (by omega) (by omega) h111
          refine Ev.run [(.bipush 13, 2), (.iload_n 1, 1), (.iload 5, 2)] (pc' := 119) (L' := [some (.ref 359), some (.int (nI i)), some (.int (nI j)), some (.int (nI (13 * i + j))), none, some (.int (nI s)), some (.int (nI (stv A s i j))), none]) (S' := [.int (nI s), .int (nI i), .int (nI 13)]) rfl (by decide +kernel) rfl ?_
          refine Ev.callS0 mX7_ofOne [.int (nI s)] [.int (nI i), .int (nI 13)] _ rfl lk_RX7_192 (by decide +kernel) rfl (Nat.le_of_ble_eq_true rfl) (c_X7_ofOne I1 J1 s (by omega)) ?_
          rintro _ _ ⟨rfl, rfl⟩
          show Ev _ _ _ _ _ 122 [some (.ref 359), some (.int (nI i)), some (.int (nI j)), some (.int (nI (13 * i + j))), none, some (.int (nI s)), some (.int (nI (stv A s i j))), none] [.int (nI (o1 s)), .int (nI i), .int (nI 13)] (zz_SH, I1, J1) _
          refine Ev.run [(.iadd, 1)] (pc' := 123) (L' := [some (.ref 359), some (.int (nI i)), some (.int (nI j)), some (.int (nI (13 * i + j))), none, some (.int (nI s)), some (.int (nI (stv A s i j))), none]) (S' := [.int (nI i + nI (o1 s)), .int (nI 13)]) rfl (by decide +kernel) rfl ?_
          rw [nI_add i (o1 s)]
          refine Ev.run [(.imul, 1)] (pc' := 124) (L' := [some (.ref 359), some (.int (nI i)), some (.int (nI j)), some (.int (nI (13 * i + j))), none, some (.int (nI s)), some (.int (nI (stv A s i j))), none]) (S' := [.int (nI 13 * nI (i + (o1 s)))]) rfl (by decide +kernel) rfl ?_
          rw [pk_mul 13 (i + (o1 s))]
          refine Ev.run [(.iload_n 2, 1), (.iadd, 1)] (pc' := 126) (L' := [some (.ref 359), some (.int (nI i)), some (.int (nI j)), some (.int (nI (13 * i + j))), none, some (.int (nI s)), some (.int (nI (stv A s i j))), none]) (S' := [.int (nI (13 * (i + (o1 s))) + nI j)]) rfl (by decide +kernel) rfl ?_
          rw [nI_add (13 * (i + (o1 s))) j]
          refine Ev.run [(.iload 5, 2)] (pc' := 128) (L' := [some (.ref 359), some (.int (nI i)), some (.int (nI j)), some (.int (nI (13 * i + j))), none, some (.int (nI s)), some (.int (nI (stv A s i j))), none]) (S' := [.int (nI s), .int (nI ((13 * (i + (o1 s))) + j))]) rfl (by decide +kernel) rfl ?_
          refine Ev.callS0 mX7_ofOther [.int (nI s)] [.int (nI ((13 * (i + (o1 s))) + j))] _ rfl lk_RX7_195 (by decide +kernel) rfl (Nat.le_of_ble_eq_true rfl) (c_X7_ofOther I1 J1 s (by omega)) ?_
          rintro _ _ ⟨rfl, rfl⟩
          show Ev _ _ _ _ _ 131 [some (.ref 359), some (.int (nI i)), some (.int (nI j)), some (.int (nI (13 * i + j))), none, some (.int (nI s)), some (.int (nI (stv A s i j))), none] [.int (nI (o2 s)), .int (nI ((13 * (i + (o1 s))) + j))] (zz_SH, I1, J1) _
          refine Ev.run [(.iadd, 1)] (pc' := 132) (L' := [some (.ref 359), some (.int (nI i)), some (.int (nI j)), some (.int (nI (13 * i + j))), none, some (.int (nI s)), some (.int (nI (stv A s i j))), none]) (S' := [.int (nI ((13 * (i + (o1 s))) + j) + nI (o2 s))]) rfl (by decide +kernel) rfl ?_
          rw [nI_add ((13 * (i + (o1 s))) + j) (o2 s)]
          refine Ev.run [(.istore 7, 2), (.iload 6, 2), (.aload_n 0, 1), (.getfield 61, 3), (.iload 7, 2)] (pc' := 142) (L' := [some (.ref 359), some (.int (nI i)), some (.int (nI j)), some (.int (nI (13 * i + j))), none, some (.int (nI s)), some (.int (nI (stv A s i j))), some (.int (nI (((13 * (i + (o1 s))) + j) + (o2 s))))]) (S' := [.int (nI (((13 * (i + (o1 s))) + j) + (o2 s))), .ref 377, .int (nI (stv A s i j))]) rfl (by decide +kernel) rfl ?_
          refine Ev.iald (((13 * (i + (o1 s))) + j) + (o2 s)) (by decide +kernel) (rfl) (rfl) (by omega) (by first | decide | omega) ?_
          dsimp only
          rw [show I1 377 (13 * (i + o1 s) + j + o2 s) = nI (LT A (i + o1 s) (j + o2 s)).1 from by rw [Nat.add_assoc]; exact hto.1]
          refine Ev.run [(.iadd, 1)] (pc' := 144) (L' := [some (.ref 359), some (.int (nI i)), some (.int (nI j)), some (.int (nI (13 * i + j))), none, some (.int (nI s)), some (.int (nI (stv A s i j))), some (.int (nI (((13 * (i + (o1 s))) + j) + (o2 s))))]) (S' := [.int (nI (stv A s i j) + nI ((LT A (i + o1 s) (j + o2 s)).1))]) rfl (by decide +kernel) rfl ?_
          rw [nI_add (stv A s i j) ((LT A (i + o1 s) (j + o2 s)).1)]
          refine Ev.run [(.aload_n 0, 1), (.getfield 61, 3), (.iload_n 3, 1)] (pc' := 149) (L' := [some (.ref 359), some (.int (nI i)), some (.int (nI j)), some (.int (nI (13 * i + j))), none, some (.int (nI s)), some (.int (nI (stv A s i j))), some (.int (nI (((13 * (i + (o1 s))) + j) + (o2 s))))]) (S' := [.int (nI (13 * i + j)), .ref 377, .int (nI ((stv A s i j) + ((LT A (i + o1 s) (j + o2 s)).1)))]) rfl (by decide +kernel) rfl ?_
          refine Ev.iald (13 * i + j) (by decide +kernel) (rfl) (rfl) (by omega) (by first | decide | omega) ?_
          dsimp only
          rw [show I1 377 (13 * i + j) = nI (fd A (LT A) i j s).1 from h1]
          refine Ev.icmp_ge (off := 26) (tgt := 176) (by decide +kernel) (by decide) (fun h150 => ?_) (fun h150 => ?_)
          · have h150 : ((stv A s i j) + ((LT A (i + o1 s) (j + o2 s)).1)) ≥ ((fd A (LT A) i j s).1) := zz_bG_t (by omega) (by omega) h150
            refine Ev.run [(.aload_n 0, 1), (.getfield 64, 3), (.iload_n 3, 1), (.dup2, 1)] (pc' := 182) (L' := [some (.ref 359), some (.int (nI i)), some (.int (nI j)), some (.int (nI (13 * i + j))), none, some (.int (nI s)), some (.int (nI (stv A s i j))), some (.int (nI (((13 * (i + (o1 s))) + j) + (o2 s))))]) (S' := [.int (nI (13 * i + j)), .ref 378, .int (nI (13 * i + j)), .ref 378]) rfl (by decide +kernel) rfl ?_
            refine Ev.lald (13 * i + j) (by decide +kernel) (rfl) (rfl) (by omega) (by first | decide | omega) ?_
            dsimp only
            rw [show J1 378 (13 * i + j) = (fd A (LT A) i j s).2 from h2]
            refine Ev.run [(.iload 6, 2), (.aload_n 0, 1), (.getfield 61, 3), (.iload 7, 2)] (pc' := 191) (L' := [some (.ref 359), some (.int (nI i)), some (.int (nI j)), some (.int (nI (13 * i + j))), none, some (.int (nI s)), some (.int (nI (stv A s i j))), some (.int (nI (((13 * (i + (o1 s))) + j) + (o2 s))))]) (S' := [.int (nI (((13 * (i + (o1 s))) + j) + (o2 s))), .ref 377, .int (nI (stv A s i j)), .long ((fd A (LT A) i j s).2), .int (nI (13 * i + j)), .ref 378]) rfl (by decide +kernel) rfl ?_
            refine Ev.iald (((13 * (i + (o1 s))) + j) + (o2 s)) (by decide +kernel) (rfl) (rfl) (by omega) (by first | decide | omega) ?_
            dsimp only
            rw [show I1 377 (13 * (i + o1 s) + j + o2 s) = nI (LT A (i + o1 s) (j + o2 s)).1 from by rw [Nat.add_assoc]; exact hto.1]
            refine Ev.run [(.iadd, 1)] (pc' := 193) (L' := [some (.ref 359), some (.int (nI i)), some (.int (nI j)), some (.int (nI (13 * i + j))), none, some (.int (nI s)), some (.int (nI (stv A s i j))), some (.int (nI (((13 * (i + (o1 s))) + j) + (o2 s))))]) (S' := [.int (nI (stv A s i j) + nI ((LT A (i + o1 s) (j + o2 s)).1)), .long ((fd A (LT A) i j s).2), .int (nI (13 * i + j)), .ref 378]) rfl (by decide +kernel) rfl ?_
            rw [nI_add (stv A s i j) ((LT A (i + o1 s) (j + o2 s)).1)]
            refine Ev.run [(.aload_n 0, 1), (.getfield 61, 3), (.iload_n 3, 1)] (pc' := 198) (L' := [some (.ref 359), some (.int (nI i)), some (.int (nI j)), some (.int (nI (13 * i + j))), none, some (.int (nI s)), some (.int (nI (stv A s i j))), some (.int (nI (((13 * (i + (o1 s))) + j) + (o2 s))))]) (S' := [.int (nI (13 * i + j)), .ref 377, .int (nI ((stv A s i j) + ((LT A (i + o1 s) (j + o2 s)).1))), .long ((fd A (LT A) i j s).2), .int (nI (13 * i + j)), .ref 378]) rfl (by decide +kernel) rfl ?_
            refine Ev.iald (13 * i + j) (by decide +kernel) (rfl) (rfl) (by omega) (by first | decide | omega) ?_
            dsimp only
            rw [show I1 377 (13 * i + j) = nI (fd A (LT A) i j s).1 from h1]
            refine Ev.icmp_ne (off := 13) (tgt := 212) (by decide +kernel) (by decide) (fun h199 => ?_) (fun h199 => ?_)
            · have h199 : ¬ ((stv A s i j) + ((LT A (i + o1 s) (j + o2 s)).1)) = ((fd A (LT A) i j s).1) := zz_bE_f (by omega) (by omega) h199
              refine Ev.run [(.lconst 0, 1), (.ladd, 1)] (pc' := 214) (L' := [some (.ref 359), some (.int (nI i)), some (.int (nI j)), some (.int (nI (13 * i + j))), none, some (.int (nI s)), some (.int (nI (stv A s i j))), some (.int (nI (((13 * (i + (o1 s))) + j) + (o2 s))))]) (S' := [.long (((fd A (LT A) i j s).2) + 0), .int (nI (13 * i + j)), .ref 378]) rfl (by decide +kernel) rfl ?_
              refine Ev.last (13 * i + j) (by decide +kernel) (rfl) (rfl) (by omega) (by first | decide | omega) ?_
              dsimp only
              refine Ev.run [(.iinc 5 1, 3)] (pc' := 218) (L' := [some (.ref 359), some (.int (nI i)), some (.int (nI j)), some (.int (nI (13 * i + j))), none, some (.int (nI s + 1)), some (.int (nI (stv A s i j))), some (.int (nI (((13 * (i + (o1 s))) + j) + (o2 s))))]) (S' := []) rfl (by decide +kernel) rfl ?_
              rw [nI_1 s]
              refine Ev.goto (off := (-126)) (tgt := 92) (by decide +kernel) (by decide) ?_
              refine Ev.weakL (L' := [some (.ref 359), some (.int (nI i)), some (.int (nI j)), some (.int (nI (13 * i + j))), none, some (.int (nI (s + 1))), none, none]) ⟨rfl, rfl, rfl, rfl, rfl, trivial⟩ ?_
              refine ih (s + 1) _ _ (by omega) (by omega) hs (hJ.tr (zJ8.up J1 _ _)) (hT.upL _ l3.2 hj12) ?_ ?_
              · rw [fd_gt hc (by omega)]; exact h1
              · rw [fd_gt hc (by omega), zz_upL_eq, zz_uLs]; exact Int64.add_zero _
            · have h199 : ((stv A s i j) + ((LT A (i + o1 s) (j + o2 s)).1)) = ((fd A (LT A) i j s).1) := zz_bE_t (by omega) (by omega) h199
              refine Ev.run [(.aload_n 0, 1), (.getfield 64, 3), (.iload 7, 2)] (pc' := 208) (L' := [some (.ref 359), some (.int (nI i)), some (.int (nI j)), some (.int (nI (13 * i + j))), none, some (.int (nI s)), some (.int (nI (stv A s i j))), some (.int (nI (((13 * (i + (o1 s))) + j) + (o2 s))))]) (S' := [.int (nI (((13 * (i + (o1 s))) + j) + (o2 s))), .ref 378, .long ((fd A (LT A) i j s).2), .int (nI (13 * i + j)), .ref 378]) rfl (by decide +kernel) rfl ?_
              refine Ev.lald (((13 * (i + (o1 s))) + j) + (o2 s)) (by decide +kernel) (rfl) (rfl) (by omega) (by first | decide | omega) ?_
              dsimp only
              rw [show J1 378 (13 * (i + o1 s) + j + o2 s) = (LT A (i + o1 s) (j + o2 s)).2 from by rw [Nat.add_assoc]; exact hto.2]
              refine Ev.goto (off := 4) (tgt := 213) (by decide +kernel) (by decide) ?_
              refine Ev.run [(.ladd, 1)] (pc' := 214) (L' := [some (.ref 359), some (.int (nI i)), some (.int (nI j)), some (.int (nI (13 * i + j))), none, some (.int (nI s)), some (.int (nI (stv A s i j))), some (.int (nI (((13 * (i + (o1 s))) + j) + (o2 s))))]) (S' := [.long (((fd A (LT A) i j s).2) + ((LT A (i + o1 s) (j + o2 s)).2)), .int (nI (13 * i + j)), .ref 378]) rfl (by decide +kernel) rfl ?_
              refine Ev.last (13 * i + j) (by decide +kernel) (rfl) (rfl) (by omega) (by first | decide | omega) ?_
              dsimp only
              refine Ev.run [(.iinc 5 1, 3)] (pc' := 218) (L' := [some (.ref 359), some (.int (nI i)), some (.int (nI j)), some (.int (nI (13 * i + j))), none, some (.int (nI s + 1)), some (.int (nI (stv A s i j))), some (.int (nI (((13 * (i + (o1 s))) + j) + (o2 s))))]) (S' := []) rfl (by decide +kernel) rfl ?_
              rw [nI_1 s]
              refine Ev.goto (off := (-126)) (tgt := 92) (by decide +kernel) (by decide) ?_
              refine Ev.weakL (L' := [some (.ref 359), some (.int (nI i)), some (.int (nI j)), some (.int (nI (13 * i + j))), none, some (.int (nI (s + 1))), none, none]) ⟨rfl, rfl, rfl, rfl, rfl, trivial⟩ ?_
              refine ih (s + 1) _ _ (by omega) (by omega) hs (hJ.tr (zJ8.up J1 _ _)) (hT.upL _ l3.2 hj12) ?_ ?_
              · rw [fd_eq hc h199]; exact h1
              · rw [fd_eq hc h199, zz_upL_eq, zz_uLs]
          · have h150 : ((stv A s i j) + ((LT A (i + o1 s) (j + o2 s)).1)) < ((fd A (LT A) i j s).1) := zz_bG_f (by omega) (by omega) h150
            refine Ev.run [(.aload_n 0, 1), (.getfield 61, 3), (.iload_n 3, 1), (.iload 6, 2), (.aload_n 0, 1), (.getfield 61, 3), (.iload 7, 2)] (pc' := 166) (L' := [some (.ref 359), some (.int (nI i)), some (.int (nI j)), some (.int (nI (13 * i + j))), none, some (.int (nI s)), some (.int (nI (stv A s i j))), some (.int (nI (((13 * (i + (o1 s))) + j) + (o2 s))))]) (S' := [.int (nI (((13 * (i + (o1 s))) + j) + (o2 s))), .ref 377, .int (nI (stv A s i j)), .int (nI (13 * i + j)), .ref 377]) rfl (by decide +kernel) rfl ?_
            refine Ev.iald (((13 * (i + (o1 s))) + j) + (o2 s)) (by decide +kernel) (rfl) (rfl) (by omega) (by first | decide | omega) ?_
            dsimp only
            rw [show I1 377 (13 * (i + o1 s) + j + o2 s) = nI (LT A (i + o1 s) (j + o2 s)).1 from by rw [Nat.add_assoc]; exact hto.1]
            refine Ev.run [(.iadd, 1)] (pc' := 168) (L' := [some (.ref 359), some (.int (nI i)), some (.int (nI j)), some (.int (nI (13 * i + j))), none, some (.int (nI s)), some (.int (nI (stv A s i j))), some (.int (nI (((13 * (i + (o1 s))) + j) + (o2 s))))]) (S' := [.int (nI (stv A s i j) + nI ((LT A (i + o1 s) (j + o2 s)).1)), .int (nI (13 * i + j)), .ref 377]) rfl (by decide +kernel) rfl ?_
            rw [nI_add (stv A s i j) ((LT A (i + o1 s) (j + o2 s)).1)]
            refine Ev.iast (13 * i + j) (by decide +kernel) (rfl) (rfl) (by omega) (by first | decide | omega) ?_
            dsimp only
            refine Ev.run [(.aload_n 0, 1), (.getfield 64, 3), (.iload_n 3, 1), (.lconst 0, 1)] (pc' := 175) (L' := [some (.ref 359), some (.int (nI i)), some (.int (nI j)), some (.int (nI (13 * i + j))), none, some (.int (nI s)), some (.int (nI (stv A s i j))), some (.int (nI (((13 * (i + (o1 s))) + j) + (o2 s))))]) (S' := [.long 0, .int (nI (13 * i + j)), .ref 378]) rfl (by decide +kernel) rfl ?_
            refine Ev.last (13 * i + j) (by decide +kernel) (rfl) (rfl) (by omega) (by first | decide | omega) ?_
            dsimp only
            refine Ev.run [(.aload_n 0, 1), (.getfield 64, 3), (.iload_n 3, 1), (.dup2, 1)] (pc' := 182) (L' := [some (.ref 359), some (.int (nI i)), some (.int (nI j)), some (.int (nI (13 * i + j))), none, some (.int (nI s)), some (.int (nI (stv A s i j))), some (.int (nI (((13 * (i + (o1 s))) + j) + (o2 s))))]) (S' := [.int (nI (13 * i + j)), .ref 378, .int (nI (13 * i + j)), .ref 378]) rfl (by decide +kernel) rfl ?_
            refine Ev.lald (13 * i + j) (by decide +kernel) (rfl) (rfl) (by omega) (by first | decide | omega) ?_
            dsimp only
            rw [show (zz_upL J1 378 (13 * i + j) 0) 378 (13 * i + j) = 0 from by rw [zz_upL_eq, zz_uLs]]
            refine Ev.run [(.iload 6, 2), (.aload_n 0, 1), (.getfield 61, 3), (.iload 7, 2)] (pc' := 191) (L' := [some (.ref 359), some (.int (nI i)), some (.int (nI j)), some (.int (nI (13 * i + j))), none, some (.int (nI s)), some (.int (nI (stv A s i j))), some (.int (nI (((13 * (i + (o1 s))) + j) + (o2 s))))]) (S' := [.int (nI (((13 * (i + (o1 s))) + j) + (o2 s))), .ref 377, .int (nI (stv A s i j)), .long 0, .int (nI (13 * i + j)), .ref 378]) rfl (by decide +kernel) rfl ?_
            refine Ev.iald (((13 * (i + (o1 s))) + j) + (o2 s)) (by decide +kernel) (rfl) (rfl) (by omega) (by first | decide | omega) ?_
            dsimp only
            rw [show (zz_up I1 377 (13 * i + j) (nI ((stv A s i j) + ((LT A (i + o1 s) (j + o2 s)).1)))) 377 (13 * (i + o1 s) + j + o2 s) = nI (LT A (i + o1 s) (j + o2 s)).1 from by rw [zz_up_eq, zz_upn (by have := o_pos s; omega), Nat.add_assoc]; exact hto.1]
            refine Ev.run [(.iadd, 1)] (pc' := 193) (L' := [some (.ref 359), some (.int (nI i)), some (.int (nI j)), some (.int (nI (13 * i + j))), none, some (.int (nI s)), some (.int (nI (stv A s i j))), some (.int (nI (((13 * (i + (o1 s))) + j) + (o2 s))))]) (S' := [.int (nI (stv A s i j) + nI ((LT A (i + o1 s) (j + o2 s)).1)), .long 0, .int (nI (13 * i + j)), .ref 378]) rfl (by decide +kernel) rfl ?_
            rw [nI_add (stv A s i j) ((LT A (i + o1 s) (j + o2 s)).1)]
            refine Ev.run [(.aload_n 0, 1), (.getfield 61, 3), (.iload_n 3, 1)] (pc' := 198) (L' := [some (.ref 359), some (.int (nI i)), some (.int (nI j)), some (.int (nI (13 * i + j))), none, some (.int (nI s)), some (.int (nI (stv A s i j))), some (.int (nI (((13 * (i + (o1 s))) + j) + (o2 s))))]) (S' := [.int (nI (13 * i + j)), .ref 377, .int (nI ((stv A s i j) + ((LT A (i + o1 s) (j + o2 s)).1))), .long 0, .int (nI (13 * i + j)), .ref 378]) rfl (by decide +kernel) rfl ?_
            refine Ev.iald (13 * i + j) (by decide +kernel) (rfl) (rfl) (by omega) (by first | decide | omega) ?_
            dsimp only
            rw [show (zz_up I1 377 (13 * i + j) (nI ((stv A s i j) + ((LT A (i + o1 s) (j + o2 s)).1)))) 377 (13 * i + j) = nI (stv A s i j + (LT A (i + o1 s) (j + o2 s)).1) from by rw [zz_up_eq, zz_ups]]
            refine Ev.icmp_ne (off := 13) (tgt := 212) (by decide +kernel) (by decide) (fun h199 => ?_) (fun h199 => ?_)
            · have h199 : ¬ ((stv A s i j) + ((LT A (i + o1 s) (j + o2 s)).1)) = (stv A s i j + (LT A (i + o1 s) (j + o2 s)).1) := zz_bE_f (by omega) (by omega) h199
              exfalso; omega
            · have h199 : ((stv A s i j) + ((LT A (i + o1 s) (j + o2 s)).1)) = (stv A s i j + (LT A (i + o1 s) (j + o2 s)).1) := zz_bE_t (by omega) (by omega) h199
              refine Ev.run [(.aload_n 0, 1), (.getfield 64, 3), (.iload 7, 2)] (pc' := 208) (L' := [some (.ref 359), some (.int (nI i)), some (.int (nI j)), some (.int (nI (13 * i + j))), none, some (.int (nI s)), some (.int (nI (stv A s i j))), some (.int (nI (((13 * (i + (o1 s))) + j) + (o2 s))))]) (S' := [.int (nI (((13 * (i + (o1 s))) + j) + (o2 s))), .ref 378, .long 0, .int (nI (13 * i + j)), .ref 378]) rfl (by decide +kernel) rfl ?_
              refine Ev.lald (((13 * (i + (o1 s))) + j) + (o2 s)) (by decide +kernel) (rfl) (rfl) (by omega) (by first | decide | omega) ?_
              dsimp only
              rw [show (zz_upL J1 378 (13 * i + j) 0) 378 (13 * (i + o1 s) + j + o2 s) = (LT A (i + o1 s) (j + o2 s)).2 from by rw [zz_upL_eq, zz_uLn (by have := o_pos s; omega), Nat.add_assoc]; exact hto.2]
              refine Ev.goto (off := 4) (tgt := 213) (by decide +kernel) (by decide) ?_
              refine Ev.run [(.ladd, 1)] (pc' := 214) (L' := [some (.ref 359), some (.int (nI i)), some (.int (nI j)), some (.int (nI (13 * i + j))), none, some (.int (nI s)), some (.int (nI (stv A s i j))), some (.int (nI (((13 * (i + (o1 s))) + j) + (o2 s))))]) (S' := [.long (0 + ((LT A (i + o1 s) (j + o2 s)).2)), .int (nI (13 * i + j)), .ref 378]) rfl (by decide +kernel) rfl ?_
              refine Ev.last (13 * i + j) (by decide +kernel) (rfl) (rfl) (by omega) (by first | decide | omega) ?_
              dsimp only
              refine Ev.run [(.iinc 5 1, 3)] (pc' := 218) (L' := [some (.ref 359), some (.int (nI i)), some (.int (nI j)), some (.int (nI (13 * i + j))), none, some (.int (nI s + 1)), some (.int (nI (stv A s i j))), some (.int (nI (((13 * (i + (o1 s))) + j) + (o2 s))))]) (S' := []) rfl (by decide +kernel) rfl ?_
              rw [nI_1 s]
              refine Ev.goto (off := (-126)) (tgt := 92) (by decide +kernel) (by decide) ?_
              refine Ev.weakL (L' := [some (.ref 359), some (.int (nI i)), some (.int (nI j)), some (.int (nI (13 * i + j))), none, some (.int (nI (s + 1))), none, none]) ⟨rfl, rfl, rfl, rfl, rfl, trivial⟩ ?_
              refine ih (s + 1) _ _ (by omega) (by omega) (hs.tr (zS8.up I1 _ _)) ((hJ.tr (zJ8.up J1 _ _)).tr (zJ8.up _ _ _)) (((hT.up _ l3.2 hj12).upL _ l3.2 hj12).upL _ l3.2 hj12) ?_ ?_
              · rw [fd_lt hc h150, zz_up_eq, zz_ups]
              · rw [fd_lt hc h150, zz_upL_eq, zz_uLs]; exact Int64.zero_add _
      · show Ev _ _ _ _ _ 99 [some (.ref 359), some (.int (nI i)), some (.int (nI j)), some (.int (nI (13 * i + j))), none, some (.int (nI s)), none, none] [] (zz_SH, I1, J1) _
        refine Ev.run [(.aload_n 0, 1), (.iload 5, 2), (.iload_n 1, 1), (.iload_n 2, 1)] (pc' := 104) (L' := [some (.ref 359), some (.int (nI i)), some (.int (nI j)), some (.int (nI (13 * i + j))), none, some (.int (nI s)), none, none]) (S' := [.int (nI j), .int (nI i), .int (nI s), .ref 359]) rfl (by decide +kernel) rfl ?_
        refine Ev.callV0 mX7_stepCosts [.int (nI s), .int (nI i), .int (nI j)] [] _ rfl lk_RX7_201 (by decide +kernel) (rfl) rfl rfl rfl (Nat.le_of_ble_eq_true rfl) (c_X7_stepCosts_n I1 J1 A (hs.sc.mv hV) hW s i j (by omega) (by omega) (by omega) hc) ?_
        rintro _ _ ⟨rfl, rfl⟩
        show Ev _ _ _ _ _ 107 [some (.ref 359), some (.int (nI i)), some (.int (nI j)), some (.int (nI (13 * i + j))), none, some (.int (nI s)), none, none] [.int ((-6))] (zz_SH, I1, J1) _
        refine Ev.run [(.istore 6, 2), (.iload 6, 2)] (pc' := 111) (L' := [some (.ref 359), some (.int (nI i)), some (.int (nI j)), some (.int (nI (13 * i + j))), none, some (.int (nI s)), some (.int ((-6))), none]) (S' := [.int ((-6))]) rfl (by decide +kernel) rfl ?_
        refine Ev.if_lt (off := 104) (tgt := 215) (by decide +kernel) (by decide) (fun h111 => ?_) (fun h111 => absurd h111 (by decide))
        refine Ev.run [(.iinc 5 1, 3)] (pc' := 218) (L' := [some (.ref 359), some (.int (nI i)), some (.int (nI j)), some (.int (nI (13 * i + j))), none, some (.int (nI s + 1)), some (.int ((-6))), none]) (S' := []) rfl (by decide +kernel) rfl ?_
        rw [nI_1 s]
        refine Ev.goto (off := (-126)) (tgt := 92) (by decide +kernel) (by decide) ?_
        refine Ev.weakL (L' := [some (.ref 359), some (.int (nI i)), some (.int (nI j)), some (.int (nI (13 * i + j))), none, some (.int (nI (s + 1))), none, none]) ⟨rfl, rfl, rfl, rfl, rfl, trivial⟩ ?_
        exact ih (s + 1) I1 J1 (by omega) (by omega) hs hJ hT (by rw [fd_n hc]; exact h1) (by rw [fd_n hc]; exact h2)

set_option maxRecDepth 100000 in
set_option maxHeartbeats 4000000 in
theorem l_X7_lc2 {sc : Nat × (Nat → Int32)} {d : Nat} (I : Nat → Nat → Int32) (J : Nat → Nat → Int64) (A : zA) (hV : MV (zVm I) A) (hW : WF A) (i : Nat) (hi : i ≤ aa A) (hout : ∀ (I2 : Nat → Nat → Int32) (J2 : Nat → Nat → Int64), zS8 I I2 → zJ8 J J2 → TI A i I2 J2 → Ev sc (d + 2) 0 0 mX7_layCosts 227 [some (.ref 359), some (.int (nI i)), none, none, none, none, none, none] [] (zz_SH, I2, J2) (fun r σ => r = none ∧ ∃ (I' : Nat → Nat → Int32) (J' : Nat → Nat → Int64), zS8 I I' ∧ zJ8 J J' ∧ TI A 0 I' J' ∧ σ = (zz_SH, I', J'))) : ∀ (μ : Nat) (j : Nat) (I1 : Nat → Nat → Int32) (J1 : Nat → Nat → Int64), j < μ → (j ≤ ab A) → (zS8 I I1) → (zJ8 J J1) → (TB A i j I1 J1) →  Ev sc (d + 2) 0 0 mX7_layCosts 18 [some (.ref 359), some (.int (nI i)), some (.int (nI j)), none, none, none, none, none] [] (zz_SH, I1, J1) (fun r σ => r = none ∧ ∃ (I' : Nat → Nat → Int32) (J' : Nat → Nat → Int64), zS8 I I' ∧ zJ8 J J' ∧ TI A 0 I' J' ∧ σ = (zz_SH, I', J')) := by
  intro μ
  induction μ with
  | zero => intro j I1 J1 hμ; exact absurd hμ (Nat.not_lt_zero _)
  | succ μ ih =>
    intro j I1 J1 hμ hj hs hJ hT
    have w1 := hW.1.1
    have w2 := hW.1.2.1
    have l3 := hW.1.2.2
    refine Ev.run [(.iload_n 2, 1)] (pc' := 19) (L' := [some (.ref 359), some (.int (nI i)), some (.int (nI j)), none, none, none, none, none]) (S' := [.int (nI j)]) rfl (by decide +kernel) rfl ?_
    refine Ev.if_lt (off := 208) (tgt := 227) (by decide +kernel) (by decide) (fun h19 => ?_) (fun h19 => ?_)
    · have h19 : j < 0 := zz_bL_t (by omega) (by omega) h19
      exfalso; omega
    · have h19 : j ≥ 0 := zz_bL_f (by omega) (by omega) h19
      refine Ev.run [(.bipush 13, 2), (.iload_n 1, 1), (.imul, 1)] (pc' := 26) (L' := [some (.ref 359), some (.int (nI i)), some (.int (nI j)), none, none, none, none, none]) (S' := [.int (nI 13 * nI i)]) rfl (by decide +kernel) rfl ?_
      rw [pk_mul 13 i]
      refine Ev.run [(.iload_n 2, 1), (.iadd, 1)] (pc' := 28) (L' := [some (.ref 359), some (.int (nI i)), some (.int (nI j)), none, none, none, none, none]) (S' := [.int (nI (13 * i) + nI j)]) rfl (by decide +kernel) rfl ?_
      rw [nI_add (13 * i) j]
      refine Ev.run [(.istore_n 3, 1), (.iload_n 1, 1), (.aload_n 0, 1), (.getfield 40, 3), (.iconst 0, 1)] (pc' := 35) (L' := [some (.ref 359), some (.int (nI i)), some (.int (nI j)), some (.int (nI ((13 * i) + j))), none, none, none, none]) (S' := [.int (nI 0), .ref 370, .int (nI i)]) rfl (by decide +kernel) rfl ?_
      refine Ev.iald 0 (by decide +kernel) (rfl) (rfl) (by omega) (by first | decide | omega) ?_
      dsimp only
      rw [show I1 370 0 = nI (aa A) from (hs.sc.mv hV).1.2.2.1]
      refine Ev.icmp_ne (off := 17) (tgt := 53) (by decide +kernel) (by decide) (fun h36 => ?_) (fun h36 => ?_)
      · have h36 : ¬ i = (aa A) := zz_bE_f (by omega) (by omega) h36
        refine Ev.run [(.iconst 0, 1), (.istore 4, 2), (.aload_n 0, 1), (.getfield 61, 3), (.iload_n 3, 1), (.iload 4, 2)] (pc' := 63) (L' := [some (.ref 359), some (.int (nI i)), some (.int (nI j)), some (.int (nI ((13 * i) + j))), some (.int (nI 0)), none, none, none]) (S' := [.int (nI 0), .int (nI ((13 * i) + j)), .ref 377]) rfl (by decide +kernel) rfl ?_
        refine Ev.if_eq (off := 7) (tgt := 70) (by decide +kernel) (by decide) (fun h63 => ?_) (fun h63 => absurd h63 (by decide))
        refine Ev.ldc (idx := 149) (v := 1000000) (by decide +kernel) (by decide +kernel) ?_
        refine Ev.iast ((13 * i) + j) (by decide +kernel) (rfl) (rfl) (by omega) (by first | decide | omega) ?_
        dsimp only
        refine Ev.run [(.aload_n 0, 1), (.getfield 64, 3), (.iload_n 3, 1), (.iload 4, 2)] (pc' := 80) (L' := [some (.ref 359), some (.int (nI i)), some (.int (nI j)), some (.int (nI ((13 * i) + j))), some (.int (nI 0)), none, none, none]) (S' := [.int (nI 0), .int (nI ((13 * i) + j)), .ref 378]) rfl (by decide +kernel) rfl ?_
        refine Ev.if_eq (off := 7) (tgt := 87) (by decide +kernel) (by decide) (fun h80 => ?_) (fun h80 => absurd h80 (by decide))
        refine Ev.run [(.lconst 0, 1)] (pc' := 88) (L' := [some (.ref 359), some (.int (nI i)), some (.int (nI j)), some (.int (nI ((13 * i) + j))), some (.int (nI 0)), none, none, none]) (S' := [.long 0, .int (nI ((13 * i) + j)), .ref 378]) rfl (by decide +kernel) rfl ?_
        refine Ev.last ((13 * i) + j) (by decide +kernel) (rfl) (rfl) (by omega) (by first | decide | omega) ?_
        dsimp only
        refine Ev.run [(.iconst 0, 1), (.istore 5, 2)] (pc' := 92) (L' := [some (.ref 359), some (.int (nI i)), some (.int (nI j)), some (.int (nI ((13 * i) + j))), some (.int (nI 0)), some (.int (nI 0)), none, none]) (S' := []) rfl (by decide +kernel) rfl ?_
        refine Ev.weakL (L' := [some (.ref 359), some (.int (nI i)), some (.int (nI j)), some (.int (nI (13 * i + j))), none, some (.int (nI 0)), none, none]) ⟨rfl, rfl, rfl, rfl, rfl, trivial⟩ ?_
        refine l_X7_lc1 I J A hV hW i j hi hj ?_ 7 0 _ _ (by omega) (by omega) (hs.tr (zS8.up I1 _ _)) (hJ.tr (zJ8.up J1 _ _)) ((hT.up _ l3.2 (by omega)).upL _ l3.2 (by omega)) ?_ ?_
        rotate_left
        · rw [zz_up_eq, zz_ups, fd, if_neg (by omega)]; rfl
        · rw [zz_upL_eq, zz_uLs, fd, if_neg (by omega)]
        intro I2 J2 hs2 hJ2 h2
        show Ev _ _ _ _ _ 221 [some (.ref 359), some (.int (nI i)), some (.int (nI j)), none, none, none, none, none] [] (zz_SH, I2, J2) _
        refine Ev.run [(.iinc 2 (-1), 3)] (pc' := 224) (L' := [some (.ref 359), some (.int (nI i)), some (.int (nI j + (-1))), none, none, none, none, none]) (S' := []) rfl (by decide +kernel) rfl ?_
        refine Ev.goto (off := (-206)) (tgt := 18) (by decide +kernel) (by decide) ?_
        rcases Nat.eq_zero_or_pos j with hj0 | hj0
        · rw [show nI j + (-1) = (-1) from by rw [hj0]; rfl]
          refine Ev.run [(.iload_n 2, 1)] (pc' := 19) (L' := [some (.ref 359), some (.int (nI i)), some (.int ((-1))), none, none, none, none, none]) (S' := [.int ((-1))]) rfl (by decide +kernel) rfl ?_
          refine Ev.if_lt (off := 208) (tgt := 227) (by decide +kernel) (by decide) (fun h19 => ?_) (fun h19 => absurd h19 (by decide))
          refine Ev.weakL (L' := [some (.ref 359), some (.int (nI i)), none, none, none, none, none, none]) ⟨rfl, rfl, trivial⟩ ?_
          exact hout I2 J2 hs2 hJ2 (fun i1 j1 z1 z2 z3 => h2 i1 j1 z1 z2 (by omega))
        · rw [show nI j + (-1) = nI (j - 1) from by rw [← pk_m1 (j - 1)]; congr 2; omega]
          exact ih (j - 1) I2 J2 (by omega) (by omega) hs2 hJ2 (fun i1 j1 z1 z2 z3 => h2 i1 j1 z1 z2 (by omega))
      · have h36 : i = (aa A) := zz_bE_t (by omega) (by omega) h36
        refine Ev.run [(.iload_n 2, 1), (.aload_n 0, 1), (.getfield 40, 3), (.iconst 1, 1)] (pc' := 45) (L' := [some (.ref 359), some (.int (nI i)), some (.int (nI j)), some (.int (nI ((13 * i) + j))), none, none, none, none]) (S' := [.int (nI 1), .ref 370, .int (nI j)]) rfl (by decide +kernel) rfl ?_
        refine Ev.iald 1 (by decide +kernel) (rfl) (rfl) (by omega) (by first | decide | omega) ?_
        dsimp only
        rw [show I1 370 1 = nI (ab A) from (hs.sc.mv hV).1.2.2.2]
        refine Ev.icmp_ne (off := 7) (tgt := 53) (by decide +kernel) (by decide) (fun h46 => ?_) (fun h46 => ?_)
        · have h46 : ¬ j = (ab A) := zz_bE_f (by omega) (by omega) h46
          refine Ev.run [(.iconst 0, 1), (.istore 4, 2), (.aload_n 0, 1), (.getfield 61, 3), (.iload_n 3, 1), (.iload 4, 2)] (pc' := 63) (L' := [some (.ref 359), some (.int (nI i)), some (.int (nI j)), some (.int (nI ((13 * i) + j))), some (.int (nI 0)), none, none, none]) (S' := [.int (nI 0), .int (nI ((13 * i) + j)), .ref 377]) rfl (by decide +kernel) rfl ?_
          refine Ev.if_eq (off := 7) (tgt := 70) (by decide +kernel) (by decide) (fun h63 => ?_) (fun h63 => absurd h63 (by decide))
          refine Ev.ldc (idx := 149) (v := 1000000) (by decide +kernel) (by decide +kernel) ?_
          refine Ev.iast ((13 * i) + j) (by decide +kernel) (rfl) (rfl) (by omega) (by first | decide | omega) ?_
          dsimp only
          refine Ev.run [(.aload_n 0, 1), (.getfield 64, 3), (.iload_n 3, 1), (.iload 4, 2)] (pc' := 80) (L' := [some (.ref 359), some (.int (nI i)), some (.int (nI j)), some (.int (nI ((13 * i) + j))), some (.int (nI 0)), none, none, none]) (S' := [.int (nI 0), .int (nI ((13 * i) + j)), .ref 378]) rfl (by decide +kernel) rfl ?_
          refine Ev.if_eq (off := 7) (tgt := 87) (by decide +kernel) (by decide) (fun h80 => ?_) (fun h80 => absurd h80 (by decide))
          refine Ev.run [(.lconst 0, 1)] (pc' := 88) (L' := [some (.ref 359), some (.int (nI i)), some (.int (nI j)), some (.int (nI ((13 * i) + j))), some (.int (nI 0)), none, none, none]) (S' := [.long 0, .int (nI ((13 * i) + j)), .ref 378]) rfl (by decide +kernel) rfl ?_
          refine Ev.last ((13 * i) + j) (by decide +kernel) (rfl) (rfl) (by omega) (by first | decide | omega) ?_
          dsimp only
          refine Ev.run [(.iconst 0, 1), (.istore 5, 2)] (pc' := 92) (L' := [some (.ref 359), some (.int (nI i)), some (.int (nI j)), some (.int (nI ((13 * i) + j))), some (.int (nI 0)), some (.int (nI 0)), none, none]) (S' := []) rfl (by decide +kernel) rfl ?_
          refine Ev.weakL (L' := [some (.ref 359), some (.int (nI i)), some (.int (nI j)), some (.int (nI (13 * i + j))), none, some (.int (nI 0)), none, none]) ⟨rfl, rfl, rfl, rfl, rfl, trivial⟩ ?_
          refine l_X7_lc1 I J A hV hW i j hi hj ?_ 7 0 _ _ (by omega) (by omega) (hs.tr (zS8.up I1 _ _)) (hJ.tr (zJ8.up J1 _ _)) ((hT.up _ l3.2 (by omega)).upL _ l3.2 (by omega)) ?_ ?_
          rotate_left
          · rw [zz_up_eq, zz_ups, fd, if_neg (by omega)]; rfl
          · rw [zz_upL_eq, zz_uLs, fd, if_neg (by omega)]
          intro I2 J2 hs2 hJ2 h2
          show Ev _ _ _ _ _ 221 [some (.ref 359), some (.int (nI i)), some (.int (nI j)), none, none, none, none, none] [] (zz_SH, I2, J2) _
          refine Ev.run [(.iinc 2 (-1), 3)] (pc' := 224) (L' := [some (.ref 359), some (.int (nI i)), some (.int (nI j + (-1))), none, none, none, none, none]) (S' := []) rfl (by decide +kernel) rfl ?_
          refine Ev.goto (off := (-206)) (tgt := 18) (by decide +kernel) (by decide) ?_
          rcases Nat.eq_zero_or_pos j with hj0 | hj0
          · rw [show nI j + (-1) = (-1) from by rw [hj0]; rfl]
            refine Ev.run [(.iload_n 2, 1)] (pc' := 19) (L' := [some (.ref 359), some (.int (nI i)), some (.int ((-1))), none, none, none, none, none]) (S' := [.int ((-1))]) rfl (by decide +kernel) rfl ?_
            refine Ev.if_lt (off := 208) (tgt := 227) (by decide +kernel) (by decide) (fun h19 => ?_) (fun h19 => absurd h19 (by decide))
            refine Ev.weakL (L' := [some (.ref 359), some (.int (nI i)), none, none, none, none, none, none]) ⟨rfl, rfl, trivial⟩ ?_
            exact hout I2 J2 hs2 hJ2 (fun i1 j1 z1 z2 z3 => h2 i1 j1 z1 z2 (by omega))
          · rw [show nI j + (-1) = nI (j - 1) from by rw [← pk_m1 (j - 1)]; congr 2; omega]
            exact ih (j - 1) I2 J2 (by omega) (by omega) hs2 hJ2 (fun i1 j1 z1 z2 z3 => h2 i1 j1 z1 z2 (by omega))
        · have h46 : j = (ab A) := zz_bE_t (by omega) (by omega) h46
          refine Ev.run [(.iconst 1, 1)] (pc' := 50) (L' := [some (.ref 359), some (.int (nI i)), some (.int (nI j)), some (.int (nI ((13 * i) + j))), none, none, none, none]) (S' := [.int (nI 1)]) rfl (by decide +kernel) rfl ?_
          refine Ev.goto (off := 4) (tgt := 54) (by decide +kernel) (by decide) ?_
          refine Ev.run [(.istore 4, 2), (.aload_n 0, 1), (.getfield 61, 3), (.iload_n 3, 1), (.iload 4, 2)] (pc' := 63) (L' := [some (.ref 359), some (.int (nI i)), some (.int (nI j)), some (.int (nI ((13 * i) + j))), some (.int (nI 1)), none, none, none]) (S' := [.int (nI 1), .int (nI ((13 * i) + j)), .ref 377]) rfl (by decide +kernel) rfl ?_
          refine Ev.if_eq (off := 7) (tgt := 70) (by decide +kernel) (by decide) (fun h63 => absurd h63 (by decide)) (fun h63 => ?_)
          refine Ev.run [(.iconst 0, 1)] (pc' := 67) (L' := [some (.ref 359), some (.int (nI i)), some (.int (nI j)), some (.int (nI ((13 * i) + j))), some (.int (nI 1)), none, none, none]) (S' := [.int (nI 0), .int (nI ((13 * i) + j)), .ref 377]) rfl (by decide +kernel) rfl ?_
          refine Ev.goto (off := 5) (tgt := 72) (by decide +kernel) (by decide) ?_
          refine Ev.iast ((13 * i) + j) (by decide +kernel) (rfl) (rfl) (by omega) (by first | decide | omega) ?_
          dsimp only
          refine Ev.run [(.aload_n 0, 1), (.getfield 64, 3), (.iload_n 3, 1), (.iload 4, 2)] (pc' := 80) (L' := [some (.ref 359), some (.int (nI i)), some (.int (nI j)), some (.int (nI ((13 * i) + j))), some (.int (nI 1)), none, none, none]) (S' := [.int (nI 1), .int (nI ((13 * i) + j)), .ref 378]) rfl (by decide +kernel) rfl ?_
          refine Ev.if_eq (off := 7) (tgt := 87) (by decide +kernel) (by decide) (fun h80 => absurd h80 (by decide)) (fun h80 => ?_)
          refine Ev.run [(.lconst 1, 1)] (pc' := 84) (L' := [some (.ref 359), some (.int (nI i)), some (.int (nI j)), some (.int (nI ((13 * i) + j))), some (.int (nI 1)), none, none, none]) (S' := [.long 1, .int (nI ((13 * i) + j)), .ref 378]) rfl (by decide +kernel) rfl ?_
          refine Ev.goto (off := 4) (tgt := 88) (by decide +kernel) (by decide) ?_
          refine Ev.last ((13 * i) + j) (by decide +kernel) (rfl) (rfl) (by omega) (by first | decide | omega) ?_
          dsimp only
          refine Ev.run [(.iconst 0, 1), (.istore 5, 2)] (pc' := 92) (L' := [some (.ref 359), some (.int (nI i)), some (.int (nI j)), some (.int (nI ((13 * i) + j))), some (.int (nI 1)), some (.int (nI 0)), none, none]) (S' := []) rfl (by decide +kernel) rfl ?_
          refine Ev.weakL (L' := [some (.ref 359), some (.int (nI i)), some (.int (nI j)), some (.int (nI (13 * i + j))), none, some (.int (nI 0)), none, none]) ⟨rfl, rfl, rfl, rfl, rfl, trivial⟩ ?_
          refine l_X7_lc1 I J A hV hW i j hi hj ?_ 7 0 _ _ (by omega) (by omega) (hs.tr (zS8.up I1 _ _)) (hJ.tr (zJ8.up J1 _ _)) ((hT.up _ l3.2 (by omega)).upL _ l3.2 (by omega)) ?_ ?_
          rotate_left
          · rw [zz_up_eq, zz_ups, fd, if_pos ⟨by omega, by omega⟩]
          · rw [zz_upL_eq, zz_uLs, fd, if_pos ⟨by omega, by omega⟩]
          intro I2 J2 hs2 hJ2 h2
          show Ev _ _ _ _ _ 221 [some (.ref 359), some (.int (nI i)), some (.int (nI j)), none, none, none, none, none] [] (zz_SH, I2, J2) _
          refine Ev.run [(.iinc 2 (-1), 3)] (pc' := 224) (L' := [some (.ref 359), some (.int (nI i)), some (.int (nI j + (-1))), none, none, none, none, none]) (S' := []) rfl (by decide +kernel) rfl ?_
          refine Ev.goto (off := (-206)) (tgt := 18) (by decide +kernel) (by decide) ?_
          rcases Nat.eq_zero_or_pos j with hj0 | hj0
          · rw [show nI j + (-1) = (-1) from by rw [hj0]; rfl]
            refine Ev.run [(.iload_n 2, 1)] (pc' := 19) (L' := [some (.ref 359), some (.int (nI i)), some (.int ((-1))), none, none, none, none, none]) (S' := [.int ((-1))]) rfl (by decide +kernel) rfl ?_
            refine Ev.if_lt (off := 208) (tgt := 227) (by decide +kernel) (by decide) (fun h19 => ?_) (fun h19 => absurd h19 (by decide))
            refine Ev.weakL (L' := [some (.ref 359), some (.int (nI i)), none, none, none, none, none, none]) ⟨rfl, rfl, trivial⟩ ?_
            exact hout I2 J2 hs2 hJ2 (fun i1 j1 z1 z2 z3 => h2 i1 j1 z1 z2 (by omega))
          · rw [show nI j + (-1) = nI (j - 1) from by rw [← pk_m1 (j - 1)]; congr 2; omega]
            exact ih (j - 1) I2 J2 (by omega) (by omega) hs2 hJ2 (fun i1 j1 z1 z2 z3 => h2 i1 j1 z1 z2 (by omega))

set_option maxRecDepth 100000 in
set_option maxHeartbeats 4000000 in
theorem l_X7_lc3 {sc : Nat × (Nat → Int32)} {d : Nat} (I : Nat → Nat → Int32) (J : Nat → Nat → Int64) (A : zA) (hV : MV (zVm I) A) (hW : WF A) : ∀ (μ : Nat) (i : Nat) (I1 : Nat → Nat → Int32) (J1 : Nat → Nat → Int64), i < μ → (i ≤ aa A) → (zS8 I I1) → (zJ8 J J1) → (TI A (i + 1) I1 J1) →  Ev sc (d + 2) 0 0 mX7_layCosts 7 [some (.ref 359), some (.int (nI i)), none, none, none, none, none, none] [] (zz_SH, I1, J1) (fun r σ => r = none ∧ ∃ (I' : Nat → Nat → Int32) (J' : Nat → Nat → Int64), zS8 I I' ∧ zJ8 J J' ∧ TI A 0 I' J' ∧ σ = (zz_SH, I', J')) := by
  intro μ
  induction μ with
  | zero => intro i I1 J1 hμ; exact absurd hμ (Nat.not_lt_zero _)
  | succ μ ih =>
    intro i I1 J1 hμ hi hs hJ hT
    have w1 := hW.1.1
    have w2 := hW.1.2.1
    have l3 := hW.1.2.2
    refine Ev.run [(.iload_n 1, 1)] (pc' := 8) (L' := [some (.ref 359), some (.int (nI i)), none, none, none, none, none, none]) (S' := [.int (nI i)]) rfl (by decide +kernel) rfl ?_
    refine Ev.if_lt (off := 225) (tgt := 233) (by decide +kernel) (by decide) (fun h8 => ?_) (fun h8 => ?_)
    · have h8 : i < 0 := zz_bL_t (by omega) (by omega) h8
      exfalso; omega
    · have h8 : i ≥ 0 := zz_bL_f (by omega) (by omega) h8
      refine Ev.run [(.aload_n 0, 1), (.getfield 40, 3), (.iconst 1, 1)] (pc' := 16) (L' := [some (.ref 359), some (.int (nI i)), none, none, none, none, none, none]) (S' := [.int (nI 1), .ref 370]) rfl (by decide +kernel) rfl ?_
      refine Ev.iald 1 (by decide +kernel) (rfl) (rfl) (by omega) (by first | decide | omega) ?_
      dsimp only
      rw [show I1 370 1 = nI (ab A) from (hs.sc.mv hV).1.2.2.2]
      refine Ev.run [(.istore_n 2, 1)] (pc' := 18) (L' := [some (.ref 359), some (.int (nI i)), some (.int (nI (ab A))), none, none, none, none, none]) (S' := []) rfl (by decide +kernel) rfl ?_
      refine l_X7_lc2 I J A hV hW i hi ?_ (ab A + 1) (ab A) I1 J1 (by omega) (by omega) hs hJ (fun i1 j1 z1 z2 z3 => hT i1 j1 z1 z2 (by omega))
      intro I2 J2 hs2 hJ2 hT2
      show Ev _ _ _ _ _ 227 [some (.ref 359), some (.int (nI i)), none, none, none, none, none, none] [] (zz_SH, I2, J2) _
      refine Ev.run [(.iinc 1 (-1), 3)] (pc' := 230) (L' := [some (.ref 359), some (.int (nI i + (-1))), none, none, none, none, none, none]) (S' := []) rfl (by decide +kernel) rfl ?_
      refine Ev.goto (off := (-223)) (tgt := 7) (by decide +kernel) (by decide) ?_
      rcases Nat.eq_zero_or_pos i with hi0 | hi0
      · rw [show nI i + (-1) = (-1) from by rw [hi0]; rfl]
        refine Ev.run [(.iload_n 1, 1)] (pc' := 8) (L' := [some (.ref 359), some (.int ((-1))), none, none, none, none, none, none]) (S' := [.int ((-1))]) rfl (by decide +kernel) rfl ?_
        refine Ev.if_lt (off := 225) (tgt := 233) (by decide +kernel) (by decide) (fun h8 => ?_) (fun h8 => absurd h8 (by decide))
        exact Ev.vret rfl (by decide +kernel) (⟨rfl, I2, J2, hs2, hJ2, fun i1 j1 z1 z2 z3 => hT2 i1 j1 z1 z2 (by omega), rfl⟩)
      · rw [show nI i + (-1) = nI (i - 1) from by rw [← pk_m1 (i - 1)]; congr 2; omega]
        exact ih (i - 1) I2 J2 (by omega) (by omega) hs2 hJ2 (fun i1 j1 z1 z2 z3 => hT2 i1 j1 z1 z2 (by omega))

set_option maxRecDepth 100000 in
set_option maxHeartbeats 4000000 in
theorem c_X7_layCosts {sc : Nat × (Nat → Int32)} {d : Nat} (I : Nat → Nat → Int32) (J : Nat → Nat → Int64) (A : zA) (hV : MV (zVm I) A) (hW : WF A) : EvM sc (d + 2) 0 0 mX7_layCosts [.ref 359] (zz_SH, I, J) (fun r σ => r = none ∧ ∃ (I' : Nat → Nat → Int32) (J' : Nat → Nat → Int64), zS8 I I' ∧ zJ8 J J' ∧ TI A 0 I' J' ∧ σ = (zz_SH, I', J')) := by
  have w1 := hW.1.1
  have w2 := hW.1.2.1
  have l3 := hW.1.2.2
  refine EvM.of (by decide) rfl (Nat.le_of_ble_eq_true rfl) ?_
  show Ev _ _ _ _ _ 0 [some (.ref 359), none, none, none, none, none, none, none] [] (zz_SH, I, J) _
  refine Ev.run [(.aload_n 0, 1), (.getfield 40, 3), (.iconst 0, 1)] (pc' := 5) (L' := [some (.ref 359), none, none, none, none, none, none, none]) (S' := [.int (nI 0), .ref 370]) rfl (by decide +kernel) rfl ?_
  refine Ev.iald 0 (by decide +kernel) (rfl) (rfl) (by omega) (by first | decide | omega) ?_
  dsimp only
  rw [show I 370 0 = nI (aa A) from hV.1.2.2.1]
  refine Ev.run [(.istore_n 1, 1)] (pc' := 7) (L' := [some (.ref 359), some (.int (nI (aa A))), none, none, none, none, none, none]) (S' := []) rfl (by decide +kernel) rfl ?_
  exact l_X7_lc3 I J A hV hW (aa A + 1) (aa A) I J (by omega) (by omega) (fun _ _ => rfl) (fun _ _ => rfl) (fun i1 j1 z1 z2 z3 => absurd z3 (by omega))
