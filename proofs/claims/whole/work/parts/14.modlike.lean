/-! ===== the model: what a query may change ===== -/
def zSc (I I' : Nat → Nat → Int32) : Prop := (∀ c, c < 359 → I' c = I c) ∧ I' 360 = I 360 ∧ (∀ c, 361 ≤ c → c ≤ 371 → I' c = I c) ∧ I' 379 = I 379 ∧ I' 380 = I 380 ∧ I' 359 0 = I 359 0 ∧ I' 359 2 = I 359 2 ∧ I' 359 8 = I 359 8
theorem zSc.rf (I : Nat → Nat → Int32) : zSc I I := ⟨fun _ _ => rfl, rfl, fun _ _ _ => rfl, rfl, rfl, rfl, rfl, rfl⟩
theorem zSc.tr {I I' I'' : Nat → Nat → Int32} (h : zSc I I') (h' : zSc I' I'') : zSc I I'' := ⟨fun c hc => (h'.1 c hc).trans (h.1 c hc), h'.2.1.trans h.2.1, fun c h1 h2 => (h'.2.2.1 c h1 h2).trans (h.2.2.1 c h1 h2), h'.2.2.2.1.trans h.2.2.2.1, h'.2.2.2.2.1.trans h.2.2.2.2.1, h'.2.2.2.2.2.1.trans h.2.2.2.2.2.1, h'.2.2.2.2.2.2.1.trans h.2.2.2.2.2.2.1, h'.2.2.2.2.2.2.2.trans h.2.2.2.2.2.2.2⟩
theorem zSc.cs (I : Nat → Nat → Int32) (c : Nat) (h : Nat → Int32) (hc : 372 ≤ c ∧ c ≤ 378) : zSc I (zz_cs I c h) := ⟨fun x hx => zz_cs_ne (by omega), zz_cs_ne (by omega), fun x h1 h2 => zz_cs_ne (by omega), zz_cs_ne (by omega), zz_cs_ne (by omega), by rw [zz_cs_ne (by omega)], by rw [zz_cs_ne (by omega)], by rw [zz_cs_ne (by omega)]⟩
theorem zSc.fl (I : Nat → Nat → Int32) (j : Nat) (v : Int32) (hj : j ≠ 0 ∧ j ≠ 2 ∧ j ≠ 8) : zSc I (zz_up I 359 j v) := ⟨fun x hx => zz_up_ne (by omega), zz_up_ne (by omega), fun x h1 h2 => zz_up_ne (by omega), zz_up_ne (by omega), zz_up_ne (by omega), by rw [zz_up_eq, zz_upn (by omega)], by rw [zz_up_eq, zz_upn (by omega)], by rw [zz_up_eq, zz_upn (by omega)]⟩
theorem zSc.up (I : Nat → Nat → Int32) (c j : Nat) (v : Int32) (hc : 372 ≤ c ∧ c ≤ 378) : zSc I (zz_up I c j v) := by rw [zz_up_cs]; exact zSc.cs I c _ hc
theorem zSc.vm {I I' : Nat → Nat → Int32} (h : zSc I I') : zVm I' = zVm I := by
  funext c
  match c with
  | 0 =>
    funext j
    match j with
    | 0 => exact h.2.2.2.2.2.2.1
    | 1 => exact h.2.2.2.2.2.2.2
    | 2 => exact congrFun (h.2.2.1 370 (by decide) (by decide)) 0
    | _ + 3 => exact congrFun (h.2.2.1 370 (by decide) (by decide)) 1
  | 1 => exact h.2.2.1 361 (by decide) (by decide)
  | 2 => exact h.2.2.1 362 (by decide) (by decide)
  | 3 => exact h.2.2.1 363 (by decide) (by decide)
  | 4 => exact h.2.2.1 364 (by decide) (by decide)
  | 5 => exact h.2.2.1 365 (by decide) (by decide)
  | 6 => exact h.2.2.1 366 (by decide) (by decide)
  | 7 => exact h.2.2.1 367 (by decide) (by decide)
  | 8 => exact h.2.2.1 368 (by decide) (by decide)
  | 9 => exact h.2.2.1 369 (by decide) (by decide)
  | _ + 10 => exact h.2.2.1 371 (by decide) (by decide)
def zS1 (I I' : Nat → Nat → Int32) : Prop := ∀ c, c ≠ 372 → I' c = I c
theorem zS1.rf (I : Nat → Nat → Int32) : zS1 I I := fun _ _ => rfl
theorem zS1.tr {I I' I'' : Nat → Nat → Int32} (h : zS1 I I') (h' : zS1 I' I'') : zS1 I I'' := fun c hc => (h' c hc).trans (h c hc)
theorem zS1.cs (I : Nat → Nat → Int32) (h : Nat → Int32) : zS1 I (zz_cs I 372 h) := fun c hc => zz_cs_ne hc
theorem zS1.sc {I I' : Nat → Nat → Int32} (h : zS1 I I') : zSc I I' := ⟨fun c hc => h c (by omega), h 360 (by decide), fun c h1 h2 => h c (by omega), h 379 (by decide), h 380 (by decide), by rw [h 359 (by decide)], by rw [h 359 (by decide)], by rw [h 359 (by decide)]⟩
theorem zSc.mv {I I' : Nat → Nat → Int32} {A : zA} (h : zSc I I') (hV : MV (zVm I) A) : MV (zVm I') A := by rw [h.vm]; exact hV
theorem zS1.mv {I I' : Nat → Nat → Int32} {A : zA} (h : zS1 I I') (hV : MV (zVm I) A) : MV (zVm I') A := h.sc.mv hV

theorem zz_q {F n m : Nat} (hn : 1 ≤ n) (hF : F ≤ 4 * max n m) : 25 * F / max n m ≤ 100 := by
  have h2 : 0 < max n m := by omega
  exact Nat.le_of_lt_succ ((Nat.div_lt_iff_lt_mul h2).mpr (by omega))

set_option maxRecDepth 100000 in
set_option maxHeartbeats 4000000 in
theorem c_X7_like {sc : Nat × (Nat → Int32)} {d : Nat} (I : Nat → Nat → Int32) (J : Nat → Nat → Int64) (F n m : Nat) (hn : 1 ≤ n) (hn2 : n ≤ 12) (hm2 : m ≤ 12) (hF : F ≤ 4 * max n m) : EvM sc (d) 0 0 mX7_like [.int (nI F), .int (nI n), .int (nI m)] (zz_SH, I, J) (zz_is (.int (nI (100 - 25 * F / max n m))) (zz_SH, I, J)) := by
  refine EvM.of (by decide) rfl (Nat.le_of_ble_eq_true rfl) ?_
  show Ev _ _ _ _ _ 0 [some (.int (nI F)), some (.int (nI n)), some (.int (nI m))] [] (zz_SH, I, J) _
  refine Ev.run [(.bipush 100, 2), (.bipush 25, 2), (.iload_n 0, 1), (.imul, 1)] (pc' := 6) (L' := [some (.int (nI F)), some (.int (nI n)), some (.int (nI m))]) (S' := [.int (nI 25 * nI F), .int (nI 100)]) rfl (by decide +kernel) rfl ?_
  rw [pk_mul 25 F]
  refine Ev.run [(.iload_n 1, 1), (.iload_n 2, 1)] (pc' := 8) (L' := [some (.int (nI F)), some (.int (nI n)), some (.int (nI m))]) (S' := [.int (nI m), .int (nI n), .int (nI (25 * F)), .int (nI 100)]) rfl (by decide +kernel) rfl ?_
  refine Ev.icmp_le (off := 7) (tgt := 15) (by decide +kernel) (by decide) (fun h8 => ?_) (fun h8 => ?_)
  · have h8 : n ≤ m := zz_bG'_t (by omega) (by omega) h8
    refine Ev.run [(.iload_n 2, 1)] (pc' := 16) (L' := [some (.int (nI F)), some (.int (nI n)), some (.int (nI m))]) (S' := [.int (nI m), .int (nI (25 * F)), .int (nI 100)]) rfl (by decide +kernel) rfl ?_
    refine Ev.idiv (by decide +kernel) (nI_ne0 (by omega) (by omega)) ?_
    rw [show nI (25 * F) / nI m = nI (25 * F / m) from pk_div (by omega) (by omega) (by omega)]
    refine Ev.run [(.isub, 1)] (pc' := 18) (L' := [some (.int (nI F)), some (.int (nI n)), some (.int (nI m))]) (S' := [.int (nI 100 - nI (25 * F / m))]) rfl (by decide +kernel) rfl ?_
    rw [show nI 100 - nI (25 * F / m) = nI (100 - 25 * F / max n m) from by rw [show max n m = m by omega]; exact zz_sub (by have := zz_q (F := F) (n := n) (m := m) hn hF; rw [show max n m = m by omega] at this; omega)]
    exact Ev.iret rfl (by decide +kernel) (⟨rfl, rfl⟩)
  · have h8 : n > m := zz_bG'_f (by omega) (by omega) h8
    refine Ev.run [(.iload_n 1, 1)] (pc' := 12) (L' := [some (.int (nI F)), some (.int (nI n)), some (.int (nI m))]) (S' := [.int (nI n), .int (nI (25 * F)), .int (nI 100)]) rfl (by decide +kernel) rfl ?_
    refine Ev.goto (off := 4) (tgt := 16) (by decide +kernel) (by decide) ?_
    refine Ev.idiv (by decide +kernel) (nI_ne0 (by omega) (by omega)) ?_
    rw [show nI (25 * F) / nI n = nI (25 * F / n) from pk_div (by omega) (by omega) (by omega)]
    refine Ev.run [(.isub, 1)] (pc' := 18) (L' := [some (.int (nI F)), some (.int (nI n)), some (.int (nI m))]) (S' := [.int (nI 100 - nI (25 * F / n))]) rfl (by decide +kernel) rfl ?_
    rw [show nI 100 - nI (25 * F / n) = nI (100 - 25 * F / max n m) from by rw [show max n m = n by omega]; exact zz_sub (by have := zz_q (F := F) (n := n) (m := m) hn hF; rw [show max n m = n by omega] at this; omega)]
    exact Ev.iret rfl (by decide +kernel) (⟨rfl, rfl⟩)

set_option maxRecDepth 100000 in
set_option maxHeartbeats 4000000 in
theorem c_X7_far_in {sc : Nat × (Nat → Int32)} {d : Nat} (I : Nat → Nat → Int32) (J : Nat → Nat → Int64) (A : zA) (hV : MV (zVm I) A) (hW : WF A) (k o : Nat) (hk : k < aM A) (ho : o < aM A) : EvM sc (d + 4) 0 0 mX7_far [.ref 359, .int (nI k), .int (nI o)] (zz_SH, I, J) (fun r σ => r = some (.int (nI (DD (tt A k) (tt A o) (tz A k) (tz A o)))) ∧ ∃ I' : Nat → Nat → Int32, zS1 I I' ∧ σ = (zz_SH, I', J)) := by
  have w1 := hW.1.1
  have w2 := hW.1.2.1
  refine EvM.of (by decide) rfl (Nat.le_of_ble_eq_true rfl) ?_
  show Ev _ _ _ _ _ 0 [some (.ref 359), some (.int (nI k)), some (.int (nI o))] [] (zz_SH, I, J) _
  refine Ev.run [(.aload_n 0, 1), (.iload_n 1, 1)] (pc' := 2) (L' := [some (.ref 359), some (.int (nI k)), some (.int (nI o))]) (S' := [.int (nI k), .ref 359]) rfl (by decide +kernel) rfl ?_
  refine Ev.callV0 mX7_isSentence [.int (nI k)] [] _ rfl lk_RX7_107 (by decide +kernel) (rfl) rfl rfl rfl (Nat.le_of_ble_eq_true rfl) (c_X7_isSentence I J (aM A) (nI k) hV.1.2.1 (by omega)) ?_
  rintro _ _ ⟨rfl, ⟨rfl, h2⟩ | ⟨rfl, h2⟩⟩
  · show Ev _ _ _ _ _ 5 [some (.ref 359), some (.int (nI k)), some (.int (nI o))] [.int (nI 1)] (zz_SH, I, J) _
    refine Ev.if_eq (off := 11) (tgt := 16) (by decide +kernel) (by decide) (fun h5 => absurd h5 (by decide)) (fun h5 => ?_)
    refine Ev.run [(.aload_n 0, 1), (.iload_n 2, 1)] (pc' := 10) (L' := [some (.ref 359), some (.int (nI k)), some (.int (nI o))]) (S' := [.int (nI o), .ref 359]) rfl (by decide +kernel) rfl ?_
    refine Ev.callV0 mX7_isSentence [.int (nI o)] [] _ rfl lk_RX7_107 (by decide +kernel) (rfl) rfl rfl rfl (Nat.le_of_ble_eq_true rfl) (c_X7_isSentence I J (aM A) (nI o) hV.1.2.1 (by omega)) ?_
    rintro _ _ ⟨rfl, ⟨rfl, h10⟩ | ⟨rfl, h10⟩⟩
    · show Ev _ _ _ _ _ 13 [some (.ref 359), some (.int (nI k)), some (.int (nI o))] [.int (nI 1)] (zz_SH, I, J) _
      refine Ev.if_ne (off := 5) (tgt := 18) (by decide +kernel) (by decide) (fun h13 => ?_) (fun h13 => absurd h13 (by decide))
      refine Ev.run [(.aload_n 0, 1), (.aload_n 0, 1), (.getfield 31, 3), (.bipush 12, 2), (.iload_n 1, 1), (.imul, 1)] (pc' := 27) (L' := [some (.ref 359), some (.int (nI k)), some (.int (nI o))]) (S' := [.int (nI 12 * nI k), .ref 367, .ref 359]) rfl (by decide +kernel) rfl ?_
      rw [pk_mul 12 k]
      refine Ev.run [(.aload_n 0, 1), (.getfield 28, 3), (.iload_n 1, 1)] (pc' := 32) (L' := [some (.ref 359), some (.int (nI k)), some (.int (nI o))]) (S' := [.int (nI k), .ref 366, .int (nI (12 * k)), .ref 367, .ref 359]) rfl (by decide +kernel) rfl ?_
      refine Ev.iald k (by decide +kernel) (rfl) (rfl) (by omega) (by first | decide | omega) ?_
      dsimp only
      rw [show I 366 k = nI (tz A k) from (hV.2.2.1 k hk).1]
      refine Ev.run [(.aload_n 0, 1), (.getfield 31, 3), (.bipush 12, 2), (.iload_n 2, 1), (.imul, 1)] (pc' := 41) (L' := [some (.ref 359), some (.int (nI k)), some (.int (nI o))]) (S' := [.int (nI 12 * nI o), .ref 367, .int (nI (tz A k)), .int (nI (12 * k)), .ref 367, .ref 359]) rfl (by decide +kernel) rfl ?_
      rw [pk_mul 12 o]
      refine Ev.run [(.aload_n 0, 1), (.getfield 28, 3), (.iload_n 2, 1)] (pc' := 46) (L' := [some (.ref 359), some (.int (nI k)), some (.int (nI o))]) (S' := [.int (nI o), .ref 366, .int (nI (12 * o)), .ref 367, .int (nI (tz A k)), .int (nI (12 * k)), .ref 367, .ref 359]) rfl (by decide +kernel) rfl ?_
      refine Ev.iald o (by decide +kernel) (rfl) (rfl) (by omega) (by first | decide | omega) ?_
      dsimp only
      rw [show I 366 o = nI (tz A o) from (hV.2.2.1 o ho).1]
      refine Ev.callV0 mX7_farOf [.ref 367, .int (nI (12 * k)), .int (nI (tz A k)), .ref 367, .int (nI (12 * o)), .int (nI (tz A o))] [] _ rfl lk_RX7_110 (by decide +kernel) (rfl) rfl rfl rfl (Nat.le_of_ble_eq_true rfl) (c_X7_farOf I J 367 367 120 120 (12 * k) (tz A k) (12 * o) (tz A o) (tt A k) (tt A o) rfl rfl (by decide) (by decide) (by have := (hW.2.2.1 k hk).1; omega) (by have := (hW.2.2.1 o ho).1; omega) (hW.2.2.1 k hk).1.2 (hW.2.2.1 o ho).1.2 (hV.2.2.1 k hk).2 (hV.2.2.1 o ho).2 (fun i hi => by have := ((hW.2.2.1 k hk).2 i hi).2; omega) (fun i hi => by have := ((hW.2.2.1 o ho).2 i hi).2; omega) (by decide) (by decide)) ?_
      rintro _ _ ⟨rfl, hh, rfl⟩
      show Ev _ _ _ _ _ 50 [some (.ref 359), some (.int (nI k)), some (.int (nI o))] [.int (nI (DD (tt A k) (tt A o) (tz A k) (tz A o)))] (zz_SH, zz_cs I 372 hh, J) _
      exact Ev.iret rfl (by decide +kernel) (⟨rfl, _, zS1.cs I hh, rfl⟩)
    · exact absurd ⟨o, ho, rfl⟩ h10
  · exact absurd ⟨k, hk, rfl⟩ h2

set_option maxRecDepth 100000 in
set_option maxHeartbeats 4000000 in
theorem c_X7_far_out {sc : Nat × (Nat → Int32)} {d : Nat} (I : Nat → Nat → Int32) (J : Nat → Nat → Int64) (A : zA) (hV : MV (zVm I) A) (hW : WF A) (x y : Int32) (hxy : ¬ (zz_ix x (aM A) ∧ zz_ix y (aM A))) : EvM sc (d + 4) 0 0 mX7_far [.ref 359, .int x, .int y] (zz_SH, I, J) (zz_is (.int (-1)) (zz_SH, I, J)) := by
  have w1 := hW.1.1
  have w2 := hW.1.2.1
  refine EvM.of (by decide) rfl (Nat.le_of_ble_eq_true rfl) ?_
  show Ev _ _ _ _ _ 0 [some (.ref 359), some (.int x), some (.int y)] [] (zz_SH, I, J) _
  refine Ev.run [(.aload_n 0, 1), (.iload_n 1, 1)] (pc' := 2) (L' := [some (.ref 359), some (.int x), some (.int y)]) (S' := [.int x, .ref 359]) rfl (by decide +kernel) rfl ?_
  refine Ev.callV0 mX7_isSentence [.int x] [] _ rfl lk_RX7_107 (by decide +kernel) (rfl) rfl rfl rfl (Nat.le_of_ble_eq_true rfl) (c_X7_isSentence I J (aM A) x hV.1.2.1 (by omega)) ?_
  rintro _ _ ⟨rfl, ⟨rfl, h2⟩ | ⟨rfl, h2⟩⟩
  · show Ev _ _ _ _ _ 5 [some (.ref 359), some (.int x), some (.int y)] [.int (nI 1)] (zz_SH, I, J) _
    refine Ev.if_eq (off := 11) (tgt := 16) (by decide +kernel) (by decide) (fun h5 => absurd h5 (by decide)) (fun h5 => ?_)
    refine Ev.run [(.aload_n 0, 1), (.iload_n 2, 1)] (pc' := 10) (L' := [some (.ref 359), some (.int x), some (.int y)]) (S' := [.int y, .ref 359]) rfl (by decide +kernel) rfl ?_
    refine Ev.callV0 mX7_isSentence [.int y] [] _ rfl lk_RX7_107 (by decide +kernel) (rfl) rfl rfl rfl (Nat.le_of_ble_eq_true rfl) (c_X7_isSentence I J (aM A) y hV.1.2.1 (by omega)) ?_
    rintro _ _ ⟨rfl, ⟨rfl, h10⟩ | ⟨rfl, h10⟩⟩
    · exact absurd ⟨h2, h10⟩ hxy
    · show Ev _ _ _ _ _ 13 [some (.ref 359), some (.int x), some (.int y)] [.int (nI 0)] (zz_SH, I, J) _
      refine Ev.if_ne (off := 5) (tgt := 18) (by decide +kernel) (by decide) (fun h13 => absurd h13 (by decide)) (fun h13 => ?_)
      refine Ev.run [(.iconst (-1), 1)] (pc' := 17) (L' := [some (.ref 359), some (.int x), some (.int y)]) (S' := [.int ((-1))]) rfl (by decide +kernel) rfl ?_
      exact Ev.iret rfl (by decide +kernel) (⟨rfl, rfl⟩)
  · show Ev _ _ _ _ _ 5 [some (.ref 359), some (.int x), some (.int y)] [.int (nI 0)] (zz_SH, I, J) _
    refine Ev.if_eq (off := 11) (tgt := 16) (by decide +kernel) (by decide) (fun h5 => ?_) (fun h5 => absurd h5 (by decide))
    refine Ev.run [(.iconst (-1), 1)] (pc' := 17) (L' := [some (.ref 359), some (.int x), some (.int y)]) (S' := [.int ((-1))]) rfl (by decide +kernel) rfl ?_
    exact Ev.iret rfl (by decide +kernel) (⟨rfl, rfl⟩)

set_option maxRecDepth 100000 in
set_option maxHeartbeats 4000000 in
theorem c_X7_likeOf {sc : Nat × (Nat → Int32)} {d : Nat} (I : Nat → Nat → Int32) (J : Nat → Nat → Int64) (A : zA) (hV : MV (zVm I) A) (hW : WF A) (k o : Nat) (hk : k < aM A) (ho : o < aM A) : EvM sc (d + 5) 0 0 mX7_likeOf [.ref 359, .int (nI k), .int (nI o)] (zz_SH, I, J) (fun r σ => r = some (.int (nI (lkT A k o))) ∧ ∃ I' : Nat → Nat → Int32, zS1 I I' ∧ σ = (zz_SH, I', J)) := by
  have w1 := hW.1.1
  have w2 := hW.1.2.1
  refine EvM.of (by decide) rfl (Nat.le_of_ble_eq_true rfl) ?_
  show Ev _ _ _ _ _ 0 [some (.ref 359), some (.int (nI k)), some (.int (nI o))] [] (zz_SH, I, J) _
  refine Ev.run [(.aload_n 0, 1), (.iload_n 1, 1), (.iload_n 2, 1)] (pc' := 3) (L' := [some (.ref 359), some (.int (nI k)), some (.int (nI o))]) (S' := [.int (nI o), .int (nI k), .ref 359]) rfl (by decide +kernel) rfl ?_
  refine Ev.callV0 mX7_far [.int (nI k), .int (nI o)] [] _ rfl lk_RX7_114 (by decide +kernel) (rfl) rfl rfl rfl (Nat.le_of_ble_eq_true rfl) (c_X7_far_in I J A hV hW k o hk ho) ?_
  rintro _ _ ⟨rfl, I1, hs_I1, rfl⟩
  have hV1 := hs_I1.mv hV
  show Ev _ _ _ _ _ 6 [some (.ref 359), some (.int (nI k)), some (.int (nI o))] [.int (nI (DD (tt A k) (tt A o) (tz A k) (tz A o)))] (zz_SH, I1, J) _
  refine Ev.run [(.aload_n 0, 1), (.getfield 28, 3), (.iload_n 1, 1)] (pc' := 11) (L' := [some (.ref 359), some (.int (nI k)), some (.int (nI o))]) (S' := [.int (nI k), .ref 366, .int (nI (DD (tt A k) (tt A o) (tz A k) (tz A o)))]) rfl (by decide +kernel) rfl ?_
  refine Ev.iald k (by decide +kernel) (rfl) (rfl) (by omega) (by first | decide | omega) ?_
  dsimp only
  rw [show I1 366 k = nI (tz A k) from (hV1.2.2.1 k hk).1]
  refine Ev.run [(.aload_n 0, 1), (.getfield 28, 3), (.iload_n 2, 1)] (pc' := 17) (L' := [some (.ref 359), some (.int (nI k)), some (.int (nI o))]) (S' := [.int (nI o), .ref 366, .int (nI (tz A k)), .int (nI (DD (tt A k) (tt A o) (tz A k) (tz A o)))]) rfl (by decide +kernel) rfl ?_
  refine Ev.iald o (by decide +kernel) (rfl) (rfl) (by omega) (by first | decide | omega) ?_
  dsimp only
  rw [show I1 366 o = nI (tz A o) from (hV1.2.2.1 o ho).1]
  refine Ev.callS0 mX7_like [.int (nI (DD (tt A k) (tt A o) (tz A k) (tz A o))), .int (nI (tz A k)), .int (nI (tz A o))] [] _ rfl lk_RX7_117 (by decide +kernel) rfl (Nat.le_of_ble_eq_true rfl) (c_X7_like I1 J (DD (tt A k) (tt A o) (tz A k) (tz A o)) (tz A k) (tz A o) (hW.2.2.1 k hk).1.1 (hW.2.2.1 k hk).1.2 (hW.2.2.1 o ho).1.2 (DD_le _ _ _ _)) ?_
  rintro _ _ ⟨rfl, rfl⟩
  show Ev _ _ _ _ _ 21 [some (.ref 359), some (.int (nI k)), some (.int (nI o))] [.int (nI (100 - 25 * DD (tt A k) (tt A o) (tz A k) (tz A o) / max (tz A k) (tz A o)))] (zz_SH, I1, J) _
  exact Ev.iret rfl (by decide +kernel) (⟨rfl, I1, hs_I1, rfl⟩)

set_option maxRecDepth 100000 in
set_option maxHeartbeats 4000000 in
theorem c_X7_likePair {sc : Nat × (Nat → Int32)} {d : Nat} (I : Nat → Nat → Int32) (J : Nat → Nat → Int64) (A : zA) (hV : MV (zVm I) A) (hW : WF A) (k p : Nat) (hk : k < aM A) (hp : p < aN A) : EvM sc (d + 4) 0 0 mX7_likePair [.ref 359, .int (nI k), .int (nI p)] (zz_SH, I, J) (fun r σ => r = some (.int (nI (lkP A k p))) ∧ ∃ I' : Nat → Nat → Int32, zS1 I I' ∧ σ = (zz_SH, I', J)) := by
  have w1 := hW.1.1
  have w2 := hW.1.2.1
  refine EvM.of (by decide) rfl (Nat.le_of_ble_eq_true rfl) ?_
  show Ev _ _ _ _ _ 0 [some (.ref 359), some (.int (nI k)), some (.int (nI p))] [] (zz_SH, I, J) _
  refine Ev.run [(.aload_n 0, 1), (.aload_n 0, 1), (.getfield 31, 3), (.bipush 12, 2), (.iload_n 1, 1), (.imul, 1)] (pc' := 9) (L' := [some (.ref 359), some (.int (nI k)), some (.int (nI p))]) (S' := [.int (nI 12 * nI k), .ref 367, .ref 359]) rfl (by decide +kernel) rfl ?_
  rw [pk_mul 12 k]
  refine Ev.run [(.aload_n 0, 1), (.getfield 28, 3), (.iload_n 1, 1)] (pc' := 14) (L' := [some (.ref 359), some (.int (nI k)), some (.int (nI p))]) (S' := [.int (nI k), .ref 366, .int (nI (12 * k)), .ref 367, .ref 359]) rfl (by decide +kernel) rfl ?_
  refine Ev.iald k (by decide +kernel) (rfl) (rfl) (by omega) (by first | decide | omega) ?_
  dsimp only
  rw [show I 366 k = nI (tz A k) from (hV.2.2.1 k hk).1]
  refine Ev.run [(.aload_n 0, 1), (.getfield 22, 3), (.bipush 12, 2), (.iload_n 2, 1), (.imul, 1)] (pc' := 23) (L' := [some (.ref 359), some (.int (nI k)), some (.int (nI p))]) (S' := [.int (nI 12 * nI p), .ref 364, .int (nI (tz A k)), .int (nI (12 * k)), .ref 367, .ref 359]) rfl (by decide +kernel) rfl ?_
  rw [pk_mul 12 p]
  refine Ev.run [(.aload_n 0, 1), (.getfield 16, 3), (.iload_n 2, 1)] (pc' := 28) (L' := [some (.ref 359), some (.int (nI k)), some (.int (nI p))]) (S' := [.int (nI p), .ref 362, .int (nI (12 * p)), .ref 364, .int (nI (tz A k)), .int (nI (12 * k)), .ref 367, .ref 359]) rfl (by decide +kernel) rfl ?_
  refine Ev.iald p (by decide +kernel) (rfl) (rfl) (by omega) (by first | decide | omega) ?_
  dsimp only
  rw [show I 362 p = nI (fz A p) from (hV.2.1 p hp).2.1]
  refine Ev.callV0 mX7_farOf [.ref 367, .int (nI (12 * k)), .int (nI (tz A k)), .ref 364, .int (nI (12 * p)), .int (nI (fz A p))] [] _ rfl lk_RX7_110 (by decide +kernel) (rfl) rfl rfl rfl (Nat.le_of_ble_eq_true rfl) (c_X7_farOf I J 367 364 120 144 (12 * k) (tz A k) (12 * p) (fz A p) (tt A k) (ff A p) rfl rfl (by decide) (by decide) (by have := (hW.2.2.1 k hk).1; omega) (by have := (hW.2.1 p hp).1; omega) (hW.2.2.1 k hk).1.2 (hW.2.1 p hp).1.2.1 (hV.2.2.1 k hk).2 (hV.2.1 p hp).2.2.2.1 (fun i hi => by have := ((hW.2.2.1 k hk).2 i hi).2; omega) (fun i hi => by have := ((hW.2.1 p hp).2.1 i hi).2; omega) (by decide) (by decide)) ?_
  rintro _ _ ⟨rfl, hh, rfl⟩
  have hs_1 := zS1.cs I hh
  have hV1 := hs_1.mv hV
  show Ev _ _ _ _ _ 32 [some (.ref 359), some (.int (nI k)), some (.int (nI p))] [.int (nI (DD (tt A k) (ff A p) (tz A k) (fz A p)))] (zz_SH, zz_cs I 372 hh, J) _
  refine Ev.run [(.aload_n 0, 1), (.getfield 28, 3), (.iload_n 1, 1)] (pc' := 37) (L' := [some (.ref 359), some (.int (nI k)), some (.int (nI p))]) (S' := [.int (nI k), .ref 366, .int (nI (DD (tt A k) (ff A p) (tz A k) (fz A p)))]) rfl (by decide +kernel) rfl ?_
  refine Ev.iald k (by decide +kernel) (rfl) (rfl) (by omega) (by first | decide | omega) ?_
  dsimp only
  rw [show (zz_cs I 372 hh) 366 k = nI (tz A k) from (hV1.2.2.1 k hk).1]
  refine Ev.run [(.aload_n 0, 1), (.getfield 16, 3), (.iload_n 2, 1)] (pc' := 43) (L' := [some (.ref 359), some (.int (nI k)), some (.int (nI p))]) (S' := [.int (nI p), .ref 362, .int (nI (tz A k)), .int (nI (DD (tt A k) (ff A p) (tz A k) (fz A p)))]) rfl (by decide +kernel) rfl ?_
  refine Ev.iald p (by decide +kernel) (rfl) (rfl) (by omega) (by first | decide | omega) ?_
  dsimp only
  rw [show (zz_cs I 372 hh) 362 p = nI (fz A p) from (hV1.2.1 p hp).2.1]
  refine Ev.callS0 mX7_like [.int (nI (DD (tt A k) (ff A p) (tz A k) (fz A p))), .int (nI (tz A k)), .int (nI (fz A p))] [] _ rfl lk_RX7_117 (by decide +kernel) rfl (Nat.le_of_ble_eq_true rfl) (c_X7_like (zz_cs I 372 hh) J (DD (tt A k) (ff A p) (tz A k) (fz A p)) (tz A k) (fz A p) (hW.2.2.1 k hk).1.1 (hW.2.2.1 k hk).1.2 (hW.2.1 p hp).1.2.1 (DD_le _ _ _ _)) ?_
  rintro _ _ ⟨rfl, rfl⟩
  show Ev _ _ _ _ _ 47 [some (.ref 359), some (.int (nI k)), some (.int (nI p))] [.int (nI (100 - 25 * DD (tt A k) (ff A p) (tz A k) (fz A p) / max (tz A k) (fz A p)))] (zz_SH, zz_cs I 372 hh, J) _
  exact Ev.iret rfl (by decide +kernel) (⟨rfl, _, hs_1, rfl⟩)
