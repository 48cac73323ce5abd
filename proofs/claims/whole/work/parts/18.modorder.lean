/-! ===== the model: the order ===== -/
def zS3 (I I' : Nat → Nat → Int32) : Prop := ∀ c, c < 372 ∨ 375 ≤ c → I' c = I c
theorem zS3.rf (I : Nat → Nat → Int32) : zS3 I I := fun _ _ => rfl
theorem zS3.tr {I I' I'' : Nat → Nat → Int32} (h : zS3 I I') (h' : zS3 I' I'') : zS3 I I'' := fun c hc => (h' c hc).trans (h c hc)
theorem zS1.s3 {I I' : Nat → Nat → Int32} (h : zS1 I I') : zS3 I I' := fun c hc => h c (by omega)
theorem zS3.up (I : Nat → Nat → Int32) (c j : Nat) (v : Int32) (hc : c = 373 ∨ c = 374) : zS3 I (zz_up I c j v) := fun x hx => zz_up_ne (by omega)
def zS4 (I I' : Nat → Nat → Int32) : Prop := ∀ c, c < 372 ∨ 376 ≤ c → I' c = I c
theorem zS4.tr {I I' I'' : Nat → Nat → Int32} (h : zS4 I I') (h' : zS4 I' I'') : zS4 I I'' := fun c hc => (h' c hc).trans (h c hc)
theorem zS3.s4 {I I' : Nat → Nat → Int32} (h : zS3 I I') : zS4 I I' := fun c hc => h c (by omega)
theorem zS4.up (I : Nat → Nat → Int32) (j : Nat) (v : Int32) : zS4 I (zz_up I 375 j v) := fun x hx => zz_up_ne (by omega)
theorem zS4.sc {I I' : Nat → Nat → Int32} (h : zS4 I I') : zSc I I' := ⟨fun c hc => h c (by omega), h 360 (by decide), fun c h1 h2 => h c (by omega), h 379 (by decide), h 380 (by decide), by rw [h 359 (by decide)], by rw [h 359 (by decide)], by rw [h 359 (by decide)]⟩
theorem zS3.mv {I I' : Nat → Nat → Int32} {A : zA} (h : zS3 I I') (hV : MV (zVm I) A) : MV (zVm I') A := h.s4.sc.mv hV
def lb1 (A : zA) (k : Nat) (I : Nat → Nat → Int32) : Prop := (∀ t, t < k → I 373 t = nI (aln A t (aN A))) ∧ ∀ t, t < k → ∀ j, j < aM A → I 374 (10 * t + j) = nI (bes A t j)
theorem lb1.s1 {A : zA} {k : Nat} {I I' : Nat → Nat → Int32} (h : lb1 A k I) (hs : zS1 I I') : lb1 A k I' := by
  refine ⟨fun t ht => ?_, fun t ht j hj => ?_⟩
  · rw [hs 373 (by decide)]; exact h.1 t ht
  · rw [hs 374 (by decide)]; exact h.2 t ht j hj
theorem lb1.u3 {A : zA} {k : Nat} {I : Nat → Nat → Int32} (v : Int32) (h : lb1 A k I) : lb1 A k (zz_up I 373 k v) := by
  refine ⟨fun t ht => ?_, fun t ht j hj => ?_⟩
  · rw [zz_up_eq, zz_upn (by omega)]; exact h.1 t ht
  · rw [zz_up_ne (by decide)]; exact h.2 t ht j hj
theorem lb1.u4 {A : zA} {k j : Nat} {I : Nat → Nat → Int32} (v : Int32) (hM : aM A ≤ 10) (h : lb1 A k I) : lb1 A k (zz_up I 374 (10 * k + j) v) := by
  refine ⟨fun t ht => ?_, fun t ht i hi => ?_⟩
  · rw [zz_up_ne (by decide)]; exact h.1 t ht
  · rw [zz_up_eq, zz_upn (by omega)]; exact h.2 t ht i hi
theorem lb1.s4 {A : zA} {k j : Nat} {I : Nat → Nat → Int32} {v : Int32} (h : lb1 A k I) : lb1 A k (zz_up I 375 j v) := by
  refine ⟨fun t ht => ?_, fun t ht i hi => ?_⟩
  · rw [zz_up_ne (by decide)]; exact h.1 t ht
  · rw [zz_up_ne (by decide)]; exact h.2 t ht i hi

set_option maxRecDepth 100000 in
set_option maxHeartbeats 4000000 in
theorem l_X7_lb1 {sc : Nat × (Nat → Int32)} {d : Nat} (I : Nat → Nat → Int32) (J : Nat → Nat → Int64) (A : zA) (hV : MV (zVm I) A) (hW : WF A) (k : Nat) (hk : k < aM A) (hout : ∀ I2 : Nat → Nat → Int32, zS3 I I2 → lb1 A k I2 → I2 373 k = nI (aln A k (aN A)) → Ev sc (d + 6) 0 0 mX7_layBeside 79 [some (.ref 359), some (.int (nI k)), none, none] [] (zz_SH, I2, J) (fun r σ => r = none ∧ ∃ I' : Nat → Nat → Int32, zS3 I I' ∧ lb1 A (aM A) I' ∧ σ = (zz_SH, I', J))) : ∀ (μ : Nat) (p : Nat) (I1 : Nat → Nat → Int32), aN A - p < μ → (p ≤ aN A) → (zS3 I I1) → (lb1 A k I1) → (I1 373 k = nI (aln A k p)) →  Ev sc (d + 6) 0 0 mX7_layBeside 24 [some (.ref 359), some (.int (nI k)), some (.int (nI p)), none] [] (zz_SH, I1, J) (fun r σ => r = none ∧ ∃ I' : Nat → Nat → Int32, zS3 I I' ∧ lb1 A (aM A) I' ∧ σ = (zz_SH, I', J)) := by
  intro μ
  induction μ with
  | zero => intro p I1 hμ; exact absurd hμ (Nat.not_lt_zero _)
  | succ μ ih =>
    intro p I1 hμ hp hs hl ha
    have w1 := hW.1.1
    have w2 := hW.1.2.1
    have c1 := aln_le hW k p
    have c2 := hW.2.2.2.1 (bnd (mtc A k p)) (bnd_lt _)
    refine Ev.run [(.iload_n 2, 1), (.aload_n 0, 1), (.getfield 75, 3)] (pc' := 29) (L' := [some (.ref 359), some (.int (nI k)), some (.int (nI p)), none]) (S' := [.int (I1 359 2), .int (nI p)]) rfl (by decide +kernel) rfl ?_
    rw [show I1 359 2 = nI (aN A) from (hs.mv hV).1.1]
    refine Ev.icmp_ge (off := 50) (tgt := 79) (by decide +kernel) (by decide) (fun h29 => ?_) (fun h29 => ?_)
    · have h29 : p ≥ (aN A) := zz_bG_t (by omega) (by omega) h29
      have hpN : aN A = p := by omega
      refine Ev.weakL (L' := [some (.ref 359), some (.int (nI k)), none, none]) ⟨rfl, rfl, trivial⟩ ?_
      exact hout I1 hs hl (by rw [hpN]; exact ha)
    · have h29 : p < (aN A) := zz_bG_f (by omega) (by omega) h29
      refine Ev.run [(.aload_n 0, 1), (.getfield 34, 3), (.aload_n 0, 1), (.iload_n 1, 1), (.iload_n 2, 1)] (pc' := 39) (L' := [some (.ref 359), some (.int (nI k)), some (.int (nI p)), none]) (S' := [.int (nI p), .int (nI k), .ref 359, .ref 368]) rfl (by decide +kernel) rfl ?_
      refine Ev.callV0 mX7_matchOf [.int (nI k), .int (nI p)] [.ref 368] _ rfl lk_RX7_124 (by decide +kernel) (rfl) rfl rfl rfl (Nat.le_of_ble_eq_true rfl) (c_X7_matchOf I1 J A (hs.mv hV) hW k p hk (by omega)) ?_
      rintro _ _ ⟨rfl, I2, hs2, rfl⟩
      have hV2 := (hs.tr hs2.s3).mv hV
      show Ev _ _ _ _ _ 42 [some (.ref 359), some (.int (nI k)), some (.int (nI p)), none] [.int (nI (mtc A k p)), .ref 368] (zz_SH, I2, J) _
      refine Ev.callS0 mX7_band [.int (nI (mtc A k p))] [.ref 368] _ rfl lk_RX7_137 (by decide +kernel) rfl (Nat.le_of_ble_eq_true rfl) (c_X7_band I2 J (mtc A k p) (by have := mtc_le A k p; omega)) ?_
      rintro _ _ ⟨rfl, rfl⟩
      show Ev _ _ _ _ _ 45 [some (.ref 359), some (.int (nI k)), some (.int (nI p)), none] [.int (nI (bnd (mtc A k p))), .ref 368] (zz_SH, I2, J) _
      refine Ev.iald (bnd (mtc A k p)) (by decide +kernel) (rfl) (rfl) (bnd_lt _) (by first | decide | omega) ?_
      dsimp only
      rw [show I2 368 (bnd (mtc A k p)) = nI (rt A (bnd (mtc A k p))) from hV2.2.2.2.1 (bnd (mtc A k p)) (bnd_lt _)]
      refine Ev.run [(.istore_n 3, 1), (.aload_n 0, 1), (.getfield 49, 3), (.iload_n 1, 1), (.iload_n 3, 1), (.aload_n 0, 1), (.getfield 49, 3), (.iload_n 1, 1)] (pc' := 58) (L' := [some (.ref 359), some (.int (nI k)), some (.int (nI p)), some (.int (nI (rt A (bnd (mtc A k p)))))]) (S' := [.int (nI k), .ref 373, .int (nI (rt A (bnd (mtc A k p)))), .int (nI k), .ref 373]) rfl (by decide +kernel) rfl ?_
      refine Ev.iald k (by decide +kernel) (rfl) (rfl) (by omega) (by first | decide | omega) ?_
      dsimp only
      rw [show I2 373 k = nI (aln A k p) from by rw [hs2 373 (by decide)]; exact ha]
      refine Ev.icmp_ge (off := 7) (tgt := 66) (by decide +kernel) (by decide) (fun h59 => ?_) (fun h59 => ?_)
      · have h59 : (rt A (bnd (mtc A k p))) ≥ (aln A k p) := zz_bG_t (by omega) (by omega) h59
        refine Ev.run [(.aload_n 0, 1), (.getfield 49, 3), (.iload_n 1, 1)] (pc' := 71) (L' := [some (.ref 359), some (.int (nI k)), some (.int (nI p)), some (.int (nI (rt A (bnd (mtc A k p)))))]) (S' := [.int (nI k), .ref 373, .int (nI k), .ref 373]) rfl (by decide +kernel) rfl ?_
        refine Ev.iald k (by decide +kernel) (rfl) (rfl) (by omega) (by first | decide | omega) ?_
        dsimp only
        rw [show I2 373 k = nI (aln A k p) from by rw [hs2 373 (by decide)]; exact ha]
        refine Ev.iast k (by decide +kernel) (rfl) (rfl) (by omega) (by first | decide | omega) ?_
        dsimp only
        refine Ev.run [(.iinc 2 1, 3)] (pc' := 76) (L' := [some (.ref 359), some (.int (nI k)), some (.int (nI p + 1)), some (.int (nI (rt A (bnd (mtc A k p)))))]) (S' := []) rfl (by decide +kernel) rfl ?_
        rw [nI_1 p]
        refine Ev.goto (off := (-52)) (tgt := 24) (by decide +kernel) (by decide) ?_
        refine Ev.weakL (L' := [some (.ref 359), some (.int (nI k)), some (.int (nI (p + 1))), none]) ⟨rfl, rfl, rfl, trivial⟩ ?_
        exact ih (p + 1) _ (by omega) (by omega) ((hs.tr hs2.s3).tr (zS3.up I2 373 k _ (by decide))) ((hl.s1 hs2).u3 _) (by rw [zz_up_eq, zz_ups, aln]; congr 1; omega)
      · have h59 : (rt A (bnd (mtc A k p))) < (aln A k p) := zz_bG_f (by omega) (by omega) h59
        refine Ev.run [(.iload_n 3, 1)] (pc' := 63) (L' := [some (.ref 359), some (.int (nI k)), some (.int (nI p)), some (.int (nI (rt A (bnd (mtc A k p)))))]) (S' := [.int (nI (rt A (bnd (mtc A k p)))), .int (nI k), .ref 373]) rfl (by decide +kernel) rfl ?_
        refine Ev.goto (off := 9) (tgt := 72) (by decide +kernel) (by decide) ?_
        refine Ev.iast k (by decide +kernel) (rfl) (rfl) (by omega) (by first | decide | omega) ?_
        dsimp only
        refine Ev.run [(.iinc 2 1, 3)] (pc' := 76) (L' := [some (.ref 359), some (.int (nI k)), some (.int (nI p + 1)), some (.int (nI (rt A (bnd (mtc A k p)))))]) (S' := []) rfl (by decide +kernel) rfl ?_
        rw [nI_1 p]
        refine Ev.goto (off := (-52)) (tgt := 24) (by decide +kernel) (by decide) ?_
        refine Ev.weakL (L' := [some (.ref 359), some (.int (nI k)), some (.int (nI (p + 1))), none]) ⟨rfl, rfl, rfl, trivial⟩ ?_
        exact ih (p + 1) _ (by omega) (by omega) ((hs.tr hs2.s3).tr (zS3.up I2 373 k _ (by decide))) ((hl.s1 hs2).u3 _) (by rw [zz_up_eq, zz_ups, aln]; congr 1; omega)

set_option maxRecDepth 100000 in
set_option maxHeartbeats 4000000 in
theorem l_X7_lb2 {sc : Nat × (Nat → Int32)} {d : Nat} (I : Nat → Nat → Int32) (J : Nat → Nat → Int64) (A : zA) (hV : MV (zVm I) A) (hW : WF A) (k : Nat) (hk : k < aM A) (hout : ∀ I2 : Nat → Nat → Int32, zS3 I I2 → lb1 A k I2 → I2 373 k = nI (aln A k (aN A)) → (∀ i, i < aM A → I2 374 (10 * k + i) = nI (bes A k i)) → Ev sc (d + 6) 0 0 mX7_layBeside 120 [some (.ref 359), some (.int (nI k)), none, none] [] (zz_SH, I2, J) (fun r σ => r = none ∧ ∃ I' : Nat → Nat → Int32, zS3 I I' ∧ lb1 A (aM A) I' ∧ σ = (zz_SH, I', J))) : ∀ (μ : Nat) (j : Nat) (I1 : Nat → Nat → Int32), aM A - j < μ → (j ≤ aM A) → (zS3 I I1) → (lb1 A k I1) → (I1 373 k = nI (aln A k (aN A))) → (∀ i, i < j → I1 374 (10 * k + i) = nI (bes A k i)) →  Ev sc (d + 6) 0 0 mX7_layBeside 81 [some (.ref 359), some (.int (nI k)), some (.int (nI j)), none] [] (zz_SH, I1, J) (fun r σ => r = none ∧ ∃ I' : Nat → Nat → Int32, zS3 I I' ∧ lb1 A (aM A) I' ∧ σ = (zz_SH, I', J)) := by
  intro μ
  induction μ with
  | zero => intro j I1 hμ; exact absurd hμ (Nat.not_lt_zero _)
  | succ μ ih =>
    intro j I1 hμ hj hs hl ha hb
    have w1 := hW.1.1
    have w2 := hW.1.2.1
    refine Ev.run [(.iload_n 2, 1), (.aload_n 0, 1), (.getfield 83, 3)] (pc' := 86) (L' := [some (.ref 359), some (.int (nI k)), some (.int (nI j)), none]) (S' := [.int (I1 359 8), .int (nI j)]) rfl (by decide +kernel) rfl ?_
    rw [show I1 359 8 = nI (aM A) from (hs.mv hV).1.2.1]
    refine Ev.icmp_ge (off := 34) (tgt := 120) (by decide +kernel) (by decide) (fun h86 => ?_) (fun h86 => ?_)
    · have h86 : j ≥ (aM A) := zz_bG_t (by omega) (by omega) h86
      have hjM : aM A = j := by omega
      refine Ev.weakL (L' := [some (.ref 359), some (.int (nI k)), none, none]) ⟨rfl, rfl, trivial⟩ ?_
      exact hout I1 hs hl ha (fun i hi => hb i (by omega))
    · have h86 : j < (aM A) := zz_bG_f (by omega) (by omega) h86
      refine Ev.run [(.aload_n 0, 1), (.getfield 52, 3), (.bipush 10, 2), (.iload_n 1, 1), (.imul, 1)] (pc' := 97) (L' := [some (.ref 359), some (.int (nI k)), some (.int (nI j)), none]) (S' := [.int (nI 10 * nI k), .ref 374]) rfl (by decide +kernel) rfl ?_
      rw [pk_mul 10 k]
      refine Ev.run [(.iload_n 2, 1), (.iadd, 1)] (pc' := 99) (L' := [some (.ref 359), some (.int (nI k)), some (.int (nI j)), none]) (S' := [.int (nI (10 * k) + nI j), .ref 374]) rfl (by decide +kernel) rfl ?_
      rw [nI_add (10 * k) j]
      refine Ev.run [(.aload_n 0, 1), (.getfield 34, 3), (.aload_n 0, 1), (.iload_n 1, 1), (.iload_n 2, 1)] (pc' := 106) (L' := [some (.ref 359), some (.int (nI k)), some (.int (nI j)), none]) (S' := [.int (nI j), .int (nI k), .ref 359, .ref 368, .int (nI ((10 * k) + j)), .ref 374]) rfl (by decide +kernel) rfl ?_
      refine Ev.callV0 mX7_likeOf [.int (nI k), .int (nI j)] [.ref 368, .int (nI ((10 * k) + j)), .ref 374] _ rfl lk_RX7_143 (by decide +kernel) (rfl) rfl rfl rfl (Nat.le_of_ble_eq_true rfl) (c_X7_likeOf I1 J A (hs.mv hV) hW k j hk (by omega)) ?_
      rintro _ _ ⟨rfl, I2, hs2, rfl⟩
      have hV2 := (hs.tr hs2.s3).mv hV
      show Ev _ _ _ _ _ 109 [some (.ref 359), some (.int (nI k)), some (.int (nI j)), none] [.int (nI (lkT A k j)), .ref 368, .int (nI ((10 * k) + j)), .ref 374] (zz_SH, I2, J) _
      refine Ev.callS0 mX7_band [.int (nI (lkT A k j))] [.ref 368, .int (nI ((10 * k) + j)), .ref 374] _ rfl lk_RX7_137 (by decide +kernel) rfl (Nat.le_of_ble_eq_true rfl) (c_X7_band I2 J (lkT A k j) (by have : lkT A k j ≤ 100 := lik_le _ _ _ _; omega)) ?_
      rintro _ _ ⟨rfl, rfl⟩
      show Ev _ _ _ _ _ 112 [some (.ref 359), some (.int (nI k)), some (.int (nI j)), none] [.int (nI (bnd (lkT A k j))), .ref 368, .int (nI ((10 * k) + j)), .ref 374] (zz_SH, I2, J) _
      refine Ev.iald (bnd (lkT A k j)) (by decide +kernel) (rfl) (rfl) (bnd_lt _) (by first | decide | omega) ?_
      dsimp only
      rw [show I2 368 (bnd (lkT A k j)) = nI (rt A (bnd (lkT A k j))) from hV2.2.2.2.1 (bnd (lkT A k j)) (bnd_lt _)]
      refine Ev.iast ((10 * k) + j) (by decide +kernel) (rfl) (rfl) (by omega) (by first | decide | omega) ?_
      dsimp only
      refine Ev.run [(.iinc 2 1, 3)] (pc' := 117) (L' := [some (.ref 359), some (.int (nI k)), some (.int (nI j + 1)), none]) (S' := []) rfl (by decide +kernel) rfl ?_
      rw [nI_1 j]
      refine Ev.goto (off := (-36)) (tgt := 81) (by decide +kernel) (by decide) ?_
      refine ih (j + 1) _ (by omega) (by omega) ((hs.tr hs2.s3).tr (zS3.up I2 374 _ _ (by decide))) ((hl.s1 hs2).u4 _ w2) (by rw [zz_up_ne (by decide), hs2 373 (by decide)]; exact ha) (fun i hi => ?_)
      by_cases e : i = j
      · subst e; rw [zz_up_eq, zz_ups]; rfl
      · rw [zz_up_eq, zz_upn (by omega), hs2 374 (by decide)]; exact hb i (by omega)

set_option maxRecDepth 100000 in
set_option maxHeartbeats 4000000 in
theorem l_X7_lb3 {sc : Nat × (Nat → Int32)} {d : Nat} (I : Nat → Nat → Int32) (J : Nat → Nat → Int64) (A : zA) (hV : MV (zVm I) A) (hW : WF A) : ∀ (μ : Nat) (k : Nat) (I1 : Nat → Nat → Int32), aM A - k < μ → (k ≤ aM A) → (zS3 I I1) → (lb1 A k I1) →  Ev sc (d + 6) 0 0 mX7_layBeside 2 [some (.ref 359), some (.int (nI k)), none, none] [] (zz_SH, I1, J) (fun r σ => r = none ∧ ∃ I' : Nat → Nat → Int32, zS3 I I' ∧ lb1 A (aM A) I' ∧ σ = (zz_SH, I', J)) := by
  intro μ
  induction μ with
  | zero => intro k I1 hμ; exact absurd hμ (Nat.not_lt_zero _)
  | succ μ ih =>
    intro k I1 hμ hk hs hl
    have w1 := hW.1.1
    have w2 := hW.1.2.1
    refine Ev.run [(.iload_n 1, 1), (.aload_n 0, 1), (.getfield 83, 3)] (pc' := 7) (L' := [some (.ref 359), some (.int (nI k)), none, none]) (S' := [.int (I1 359 8), .int (nI k)]) rfl (by decide +kernel) rfl ?_
    rw [show I1 359 8 = nI (aM A) from (hs.mv hV).1.2.1]
    refine Ev.icmp_ge (off := 119) (tgt := 126) (by decide +kernel) (by decide) (fun h7 => ?_) (fun h7 => ?_)
    · have h7 : k ≥ (aM A) := zz_bG_t (by omega) (by omega) h7
      have hkM : aM A = k := by omega
      exact Ev.vret rfl (by decide +kernel) (⟨rfl, I1, hs, by rw [hkM]; exact hl, rfl⟩)
    · have h7 : k < (aM A) := zz_bG_f (by omega) (by omega) h7
      refine Ev.run [(.aload_n 0, 1), (.getfield 49, 3), (.iload_n 1, 1), (.aload_n 0, 1), (.getfield 34, 3), (.iconst 4, 1)] (pc' := 20) (L' := [some (.ref 359), some (.int (nI k)), none, none]) (S' := [.int (nI 4), .ref 368, .int (nI k), .ref 373]) rfl (by decide +kernel) rfl ?_
      refine Ev.iald 4 (by decide +kernel) (rfl) (rfl) (by omega) (by first | decide | omega) ?_
      dsimp only
      rw [show I1 368 4 = nI (rt A 4) from (hs.mv hV).2.2.2.1 4 (by decide)]
      refine Ev.iast k (by decide +kernel) (rfl) (rfl) (by omega) (by first | decide | omega) ?_
      dsimp only
      refine Ev.run [(.iconst 0, 1), (.istore_n 2, 1)] (pc' := 24) (L' := [some (.ref 359), some (.int (nI k)), some (.int (nI 0)), none]) (S' := []) rfl (by decide +kernel) rfl ?_
      refine l_X7_lb1 I J A hV hW k (by omega) ?_ (aN A + 1) 0 _ (by omega) (by omega) (hs.tr (zS3.up I1 373 k _ (by decide))) (hl.u3 _) (by rw [zz_up_eq, zz_ups]; rfl)
      intro I2 hs2 hl2 ha2
      show Ev _ _ _ _ _ 79 [some (.ref 359), some (.int (nI k)), none, none] [] (zz_SH, I2, J) _
      refine Ev.run [(.iconst 0, 1), (.istore_n 2, 1)] (pc' := 81) (L' := [some (.ref 359), some (.int (nI k)), some (.int (nI 0)), none]) (S' := []) rfl (by decide +kernel) rfl ?_
      refine l_X7_lb2 I J A hV hW k (by omega) ?_ (aM A + 1) 0 I2 (by omega) (by omega) hs2 hl2 ha2 (fun i hi => absurd hi (Nat.not_lt_zero i))
      intro I3 hs3 hl3 ha3 hb3
      show Ev _ _ _ _ _ 120 [some (.ref 359), some (.int (nI k)), none, none] [] (zz_SH, I3, J) _
      refine Ev.run [(.iinc 1 1, 3)] (pc' := 123) (L' := [some (.ref 359), some (.int (nI k + 1)), none, none]) (S' := []) rfl (by decide +kernel) rfl ?_
      rw [nI_1 k]
      refine Ev.goto (off := (-121)) (tgt := 2) (by decide +kernel) (by decide) ?_
      refine ih (k + 1) I3 (by omega) (by omega) hs3 ⟨fun t ht => ?_, fun t ht j hj => ?_⟩
      · by_cases e : t = k
        · subst e; exact ha3
        · exact hl3.1 t (by omega)
      · by_cases e : t = k
        · subst e; exact hb3 j hj
        · exact hl3.2 t (by omega) j hj

set_option maxRecDepth 100000 in
set_option maxHeartbeats 4000000 in
theorem c_X7_layBeside {sc : Nat × (Nat → Int32)} {d : Nat} (I : Nat → Nat → Int32) (J : Nat → Nat → Int64) (A : zA) (hV : MV (zVm I) A) (hW : WF A) : EvM sc (d + 6) 0 0 mX7_layBeside [.ref 359] (zz_SH, I, J) (fun r σ => r = none ∧ ∃ I' : Nat → Nat → Int32, zS3 I I' ∧ lb1 A (aM A) I' ∧ σ = (zz_SH, I', J)) := by
  have w1 := hW.1.1
  have w2 := hW.1.2.1
  refine EvM.of (by decide) rfl (Nat.le_of_ble_eq_true rfl) ?_
  show Ev _ _ _ _ _ 0 [some (.ref 359), none, none, none] [] (zz_SH, I, J) _
  refine Ev.run [(.iconst 0, 1), (.istore_n 1, 1)] (pc' := 2) (L' := [some (.ref 359), some (.int (nI 0)), none, none]) (S' := []) rfl (by decide +kernel) rfl ?_
  exact l_X7_lb3 I J A hV hW (aM A + 1) 0 I (by omega) (by omega) (zS3.rf I) ⟨fun t ht => absurd ht (Nat.not_lt_zero t), fun t ht => absurd ht (Nat.not_lt_zero t)⟩

set_option maxRecDepth 100000 in
set_option maxHeartbeats 4000000 in
theorem l_X7_costs {sc : Nat × (Nat → Int32)} {d : Nat} (I : Nat → Nat → Int32) (J : Nat → Nat → Int64) (A : zA) (hV : MV (zVm I) A) (hW : WF A) (k o : Nat) (hk : k < aM A) (ho : o < 1024) (hl : lb1 A (aM A) I) : ∀ (μ : Nat) (j : Nat), aM A - j < μ → (j ≤ aM A) →  Ev sc (d) 0 0 mX7_costs 10 [some (.ref 359), some (.int (nI k)), some (.int (nI o)), some (.int (nI (lst A k o j))), some (.int (nI j)), none] [] (zz_SH, I, J) (zz_is (.int (nI (cst A k o))) (zz_SH, I, J)) := by
  intro μ
  induction μ with
  | zero => intro j hμ; exact absurd hμ (Nat.not_lt_zero _)
  | succ μ ih =>
    intro j hμ hj
    have w1 := hW.1.1
    have w2 := hW.1.2.1
    have c1 := lst_le hW k o j
    have c2 : bes A k j ≤ 99 := hW.2.2.2.1 _ (bnd_lt _)
    refine Ev.run [(.iload 4, 2), (.aload_n 0, 1), (.getfield 83, 3)] (pc' := 16) (L' := [some (.ref 359), some (.int (nI k)), some (.int (nI o)), some (.int (nI (lst A k o j))), some (.int (nI j)), none]) (S' := [.int (I 359 8), .int (nI j)]) rfl (by decide +kernel) rfl ?_
    rw [show I 359 8 = nI (aM A) from hV.1.2.1]
    refine Ev.icmp_ge (off := 64) (tgt := 80) (by decide +kernel) (by decide) (fun h16 => ?_) (fun h16 => ?_)
    · have h16 : j ≥ (aM A) := zz_bG_t (by omega) (by omega) h16
      have hjM : aM A = j := by omega
      refine Ev.run [(.aload_n 0, 1), (.getfield 28, 3), (.iload_n 1, 1)] (pc' := 85) (L' := [some (.ref 359), some (.int (nI k)), some (.int (nI o)), some (.int (nI (lst A k o j))), some (.int (nI j)), none]) (S' := [.int (nI k), .ref 366]) rfl (by decide +kernel) rfl ?_
      refine Ev.iald k (by decide +kernel) (rfl) (rfl) (by omega) (by first | decide | omega) ?_
      dsimp only
      rw [show I 366 k = nI (tz A k) from (hV.2.2.1 k hk).1]
      refine Ev.run [(.iload_n 3, 1), (.imul, 1)] (pc' := 88) (L' := [some (.ref 359), some (.int (nI k)), some (.int (nI o)), some (.int (nI (lst A k o j))), some (.int (nI j)), none]) (S' := [.int (nI (tz A k) * nI (lst A k o j))]) rfl (by decide +kernel) rfl ?_
      rw [pk_mul (tz A k) (lst A k o j)]
      exact Ev.iret rfl (by decide +kernel) (⟨by rw [cst, hjM], rfl⟩)
    · have h16 : j < (aM A) := zz_bG_f (by omega) (by omega) h16
      refine Ev.run [(.iload_n 2, 1), (.iload 4, 2), (.ishr, 1)] (pc' := 23) (L' := [some (.ref 359), some (.int (nI k)), some (.int (nI o)), some (.int (nI (lst A k o j))), some (.int (nI j)), none]) (S' := [.int ((nI o) >>> (nI j &&& 31))]) rfl (by decide +kernel) rfl ?_
      rw [zz_shr (a := o) (k := j) (by omega) (by omega)]
      refine Ev.run [(.iconst 1, 1)] (pc' := 24) (L' := [some (.ref 359), some (.int (nI k)), some (.int (nI o)), some (.int (nI (lst A k o j))), some (.int (nI j)), none]) (S' := [.int (nI 1), .int (nI (o / 2 ^ j))]) rfl (by decide +kernel) rfl ?_
      have q1 := zz_tb_le o j
      refine Ev.run [(.iand, 1)] (pc' := 25) (L' := [some (.ref 359), some (.int (nI k)), some (.int (nI o)), some (.int (nI (lst A k o j))), some (.int (nI j)), none]) (S' := [.int (nI (o / 2 ^ j) &&& nI 1)]) rfl (by decide +kernel) rfl ?_
      rw [zz_and (o / 2 ^ j) 1]
      refine Ev.run [(.iconst 1, 1)] (pc' := 26) (L' := [some (.ref 359), some (.int (nI k)), some (.int (nI o)), some (.int (nI (lst A k o j))), some (.int (nI j)), none]) (S' := [.int (nI 1), .int (nI ((o / 2 ^ j) &&& 1))]) rfl (by decide +kernel) rfl ?_
      refine Ev.icmp_ne (off := 23) (tgt := 49) (by decide +kernel) (by decide) (fun h26 => ?_) (fun h26 => ?_)
      · have h26 : ¬ ((o / 2 ^ j) &&& 1) = 1 := zz_bE_f (by omega) (by omega) h26
        refine Ev.run [(.iconst 0, 1), (.istore 5, 2), (.iload 5, 2)] (pc' := 54) (L' := [some (.ref 359), some (.int (nI k)), some (.int (nI o)), some (.int (nI (lst A k o j))), some (.int (nI j)), some (.int (nI 0))]) (S' := [.int (nI 0)]) rfl (by decide +kernel) rfl ?_
        refine Ev.if_eq (off := 18) (tgt := 72) (by decide +kernel) (by decide) (fun h54 => ?_) (fun h54 => absurd h54 (by decide))
        refine Ev.run [(.iload_n 3, 1), (.istore_n 3, 1), (.iinc 4 1, 3)] (pc' := 77) (L' := [some (.ref 359), some (.int (nI k)), some (.int (nI o)), some (.int (nI (lst A k o j))), some (.int (nI j + 1)), some (.int (nI 0))]) (S' := []) rfl (by decide +kernel) rfl ?_
        rw [nI_1 j]
        refine Ev.goto (off := (-67)) (tgt := 10) (by decide +kernel) (by decide) ?_
        refine Ev.weakL (L' := [some (.ref 359), some (.int (nI k)), some (.int (nI o)), some (.int (nI (lst A k o j))), some (.int (nI (j + 1))), none]) ⟨rfl, rfl, rfl, rfl, rfl, trivial⟩ ?_
        rw [show lst A k o j = lst A k o (j + 1) from by rw [lst, if_neg (by rw [zz_tb1] at h26; simpa using h26)]]
        exact ih (j + 1) (by omega) (by omega)
      · have h26 : ((o / 2 ^ j) &&& 1) = 1 := zz_bE_t (by omega) (by omega) h26
        refine Ev.run [(.aload_n 0, 1), (.getfield 52, 3), (.bipush 10, 2), (.iload_n 1, 1), (.imul, 1)] (pc' := 37) (L' := [some (.ref 359), some (.int (nI k)), some (.int (nI o)), some (.int (nI (lst A k o j))), some (.int (nI j)), none]) (S' := [.int (nI 10 * nI k), .ref 374]) rfl (by decide +kernel) rfl ?_
        rw [pk_mul 10 k]
        refine Ev.run [(.iload 4, 2), (.iadd, 1)] (pc' := 40) (L' := [some (.ref 359), some (.int (nI k)), some (.int (nI o)), some (.int (nI (lst A k o j))), some (.int (nI j)), none]) (S' := [.int (nI (10 * k) + nI j), .ref 374]) rfl (by decide +kernel) rfl ?_
        rw [nI_add (10 * k) j]
        refine Ev.iald ((10 * k) + j) (by decide +kernel) (rfl) (rfl) (by omega) (by first | decide | omega) ?_
        dsimp only
        rw [show I 374 (10 * k + j) = nI (bes A k j) from hl.2 k hk j (by omega)]
        refine Ev.run [(.iload_n 3, 1)] (pc' := 42) (L' := [some (.ref 359), some (.int (nI k)), some (.int (nI o)), some (.int (nI (lst A k o j))), some (.int (nI j)), none]) (S' := [.int (nI (lst A k o j)), .int (nI (bes A k j))]) rfl (by decide +kernel) rfl ?_
        refine Ev.icmp_ge (off := 7) (tgt := 49) (by decide +kernel) (by decide) (fun h42 => ?_) (fun h42 => ?_)
        · have h42 : (bes A k j) ≥ (lst A k o j) := zz_bG_t (by omega) (by omega) h42
          refine Ev.run [(.iconst 0, 1), (.istore 5, 2), (.iload 5, 2)] (pc' := 54) (L' := [some (.ref 359), some (.int (nI k)), some (.int (nI o)), some (.int (nI (lst A k o j))), some (.int (nI j)), some (.int (nI 0))]) (S' := [.int (nI 0)]) rfl (by decide +kernel) rfl ?_
          refine Ev.if_eq (off := 18) (tgt := 72) (by decide +kernel) (by decide) (fun h54 => ?_) (fun h54 => absurd h54 (by decide))
          refine Ev.run [(.iload_n 3, 1), (.istore_n 3, 1), (.iinc 4 1, 3)] (pc' := 77) (L' := [some (.ref 359), some (.int (nI k)), some (.int (nI o)), some (.int (nI (lst A k o j))), some (.int (nI j + 1)), some (.int (nI 0))]) (S' := []) rfl (by decide +kernel) rfl ?_
          rw [nI_1 j]
          refine Ev.goto (off := (-67)) (tgt := 10) (by decide +kernel) (by decide) ?_
          refine Ev.weakL (L' := [some (.ref 359), some (.int (nI k)), some (.int (nI o)), some (.int (nI (lst A k o j))), some (.int (nI (j + 1))), none]) ⟨rfl, rfl, rfl, rfl, rfl, trivial⟩ ?_
          rw [show lst A k o j = lst A k o (j + 1) from by rw [lst, if_pos (zz_tb1.mp h26)]; omega]
          exact ih (j + 1) (by omega) (by omega)
        · have h42 : (bes A k j) < (lst A k o j) := zz_bG_f (by omega) (by omega) h42
          refine Ev.run [(.iconst 1, 1)] (pc' := 46) (L' := [some (.ref 359), some (.int (nI k)), some (.int (nI o)), some (.int (nI (lst A k o j))), some (.int (nI j)), none]) (S' := [.int (nI 1)]) rfl (by decide +kernel) rfl ?_
          refine Ev.goto (off := 4) (tgt := 50) (by decide +kernel) (by decide) ?_
          refine Ev.run [(.istore 5, 2), (.iload 5, 2)] (pc' := 54) (L' := [some (.ref 359), some (.int (nI k)), some (.int (nI o)), some (.int (nI (lst A k o j))), some (.int (nI j)), some (.int (nI 1))]) (S' := [.int (nI 1)]) rfl (by decide +kernel) rfl ?_
          refine Ev.if_eq (off := 18) (tgt := 72) (by decide +kernel) (by decide) (fun h54 => absurd h54 (by decide)) (fun h54 => ?_)
          refine Ev.run [(.aload_n 0, 1), (.getfield 52, 3), (.bipush 10, 2), (.iload_n 1, 1), (.imul, 1)] (pc' := 65) (L' := [some (.ref 359), some (.int (nI k)), some (.int (nI o)), some (.int (nI (lst A k o j))), some (.int (nI j)), some (.int (nI 1))]) (S' := [.int (nI 10 * nI k), .ref 374]) rfl (by decide +kernel) rfl ?_
          rw [pk_mul 10 k]
          refine Ev.run [(.iload 4, 2), (.iadd, 1)] (pc' := 68) (L' := [some (.ref 359), some (.int (nI k)), some (.int (nI o)), some (.int (nI (lst A k o j))), some (.int (nI j)), some (.int (nI 1))]) (S' := [.int (nI (10 * k) + nI j), .ref 374]) rfl (by decide +kernel) rfl ?_
          rw [nI_add (10 * k) j]
          refine Ev.iald ((10 * k) + j) (by decide +kernel) (rfl) (rfl) (by omega) (by first | decide | omega) ?_
          dsimp only
          rw [show I 374 (10 * k + j) = nI (bes A k j) from hl.2 k hk j (by omega)]
          refine Ev.goto (off := 4) (tgt := 73) (by decide +kernel) (by decide) ?_
          refine Ev.run [(.istore_n 3, 1), (.iinc 4 1, 3)] (pc' := 77) (L' := [some (.ref 359), some (.int (nI k)), some (.int (nI o)), some (.int (nI (bes A k j))), some (.int (nI j + 1)), some (.int (nI 1))]) (S' := []) rfl (by decide +kernel) rfl ?_
          rw [nI_1 j]
          refine Ev.goto (off := (-67)) (tgt := 10) (by decide +kernel) (by decide) ?_
          refine Ev.weakL (L' := [some (.ref 359), some (.int (nI k)), some (.int (nI o)), some (.int (nI (bes A k j))), some (.int (nI (j + 1))), none]) ⟨rfl, rfl, rfl, rfl, rfl, trivial⟩ ?_
          rw [show bes A k j = lst A k o (j + 1) from by rw [lst, if_pos (zz_tb1.mp h26)]; omega]
          exact ih (j + 1) (by omega) (by omega)

set_option maxRecDepth 100000 in
set_option maxHeartbeats 4000000 in
theorem c_X7_costs {sc : Nat × (Nat → Int32)} {d : Nat} (I : Nat → Nat → Int32) (J : Nat → Nat → Int64) (A : zA) (hV : MV (zVm I) A) (hW : WF A) (k o : Nat) (hk : k < aM A) (ho : o < 1024) (hl : lb1 A (aM A) I) : EvM sc (d) 0 0 mX7_costs [.ref 359, .int (nI k), .int (nI o)] (zz_SH, I, J) (zz_is (.int (nI (cst A k o))) (zz_SH, I, J)) := by
  have w1 := hW.1.1
  have w2 := hW.1.2.1
  refine EvM.of (by decide) rfl (Nat.le_of_ble_eq_true rfl) ?_
  show Ev _ _ _ _ _ 0 [some (.ref 359), some (.int (nI k)), some (.int (nI o)), none, none, none] [] (zz_SH, I, J) _
  refine Ev.run [(.aload_n 0, 1), (.getfield 49, 3), (.iload_n 1, 1)] (pc' := 5) (L' := [some (.ref 359), some (.int (nI k)), some (.int (nI o)), none, none, none]) (S' := [.int (nI k), .ref 373]) rfl (by decide +kernel) rfl ?_
  refine Ev.iald k (by decide +kernel) (rfl) (rfl) (by omega) (by first | decide | omega) ?_
  dsimp only
  rw [show I 373 k = nI (aln A k (aN A)) from hl.1 k hk]
  refine Ev.run [(.istore_n 3, 1), (.iconst 0, 1), (.istore 4, 2)] (pc' := 10) (L' := [some (.ref 359), some (.int (nI k)), some (.int (nI o)), some (.int (nI (aln A k (aN A)))), some (.int (nI 0)), none]) (S' := []) rfl (by decide +kernel) rfl ?_
  exact l_X7_costs I J A hV hW k o hk ho hl (aM A + 1) 0 (by omega) (by omega)
