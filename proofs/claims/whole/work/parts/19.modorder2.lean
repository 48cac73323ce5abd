/-! ===== the model: layOrders, order ===== -/

set_option maxRecDepth 100000 in
set_option maxHeartbeats 4000000 in
theorem l_X7_lo1 {sc : Nat × (Nat → Int32)} {d : Nat} (I : Nat → Nat → Int32) (J : Nat → Nat → Int64) (A : zA) (hV : MV (zVm I) A) (hW : WF A) (i : Nat) (hi : i < 2 ^ aM A - 1) (hout : ∀ I2 : Nat → Nat → Int32, zS4 I I2 → lb1 A (aM A) I2 → (∀ x, i ≤ x → x ≤ 2 ^ aM A - 1 → I2 375 x = nI (BT A x)) → Ev sc (d + 7) 0 0 mX7_layOrders 107 [some (.ref 359), some (.int (nI (2 ^ aM A - 1))), some (.int (nI i)), none, none] [] (zz_SH, I2, J) (fun r σ => r = none ∧ ∃ I' : Nat → Nat → Int32, zS4 I I' ∧ lb1 A (aM A) I' ∧ (∀ x, x ≤ 2 ^ aM A - 1 → I' 375 x = nI (BT A x)) ∧ σ = (zz_SH, I', J))) : ∀ (μ : Nat) (k : Nat) (I1 : Nat → Nat → Int32), aM A - k < μ → (k ≤ aM A) → (zS4 I I1) → (lb1 A (aM A) I1) → (∀ x, i < x → x ≤ 2 ^ aM A - 1 → I1 375 x = nI (BT A x)) → (I1 375 i = nI (mov (mno A (BT A) i k))) →  Ev sc (d + 7) 0 0 mX7_layOrders 38 [some (.ref 359), some (.int (nI (2 ^ aM A - 1))), some (.int (nI i)), some (.int (nI k)), none] [] (zz_SH, I1, J) (fun r σ => r = none ∧ ∃ I' : Nat → Nat → Int32, zS4 I I' ∧ lb1 A (aM A) I' ∧ (∀ x, x ≤ 2 ^ aM A - 1 → I' 375 x = nI (BT A x)) ∧ σ = (zz_SH, I', J)) := by
  intro μ
  induction μ with
  | zero => intro k I1 hμ; exact absurd hμ (Nat.not_lt_zero _)
  | succ μ ih =>
    intro k I1 hμ hk hs hl hgt hat
    have w1 := hW.1.1
    have w2 := hW.1.2.1
    have hp : 2 ^ aM A ≤ 1024 := Nat.le_trans (zz_pw2 w2) (by decide)
    have hp1 : 1 ≤ 2 ^ aM A := Nat.pow_pos (by decide)
    have q9 := mov_le hW (done := i) hk
    refine Ev.run [(.iload_n 3, 1), (.aload_n 0, 1), (.getfield 83, 3)] (pc' := 43) (L' := [some (.ref 359), some (.int (nI (2 ^ aM A - 1))), some (.int (nI i)), some (.int (nI k)), none]) (S' := [.int (I1 359 8), .int (nI k)]) rfl (by decide +kernel) rfl ?_
    rw [show I1 359 8 = nI (aM A) from (hs.sc.mv hV).1.2.1]
    refine Ev.icmp_ge (off := 64) (tgt := 107) (by decide +kernel) (by decide) (fun h43 => ?_) (fun h43 => ?_)
    · have h43 : k ≥ (aM A) := zz_bG_t (by omega) (by omega) h43
      have hkM : aM A = k := by omega
      refine Ev.weakL (L' := [some (.ref 359), some (.int (nI (2 ^ aM A - 1))), some (.int (nI i)), none, none]) ⟨rfl, rfl, rfl, trivial⟩ ?_
      refine hout I1 hs hl (fun x hx1 hx2 => ?_)
      by_cases e : x = i
      · subst e; rw [BT_rec w2 hi, hkM]; exact hat
      · exact hgt x (by omega) hx2
    · have h43 : k < (aM A) := zz_bG_f (by omega) (by omega) h43
      refine Ev.run [(.iload_n 2, 1), (.iload_n 3, 1), (.ishr, 1)] (pc' := 49) (L' := [some (.ref 359), some (.int (nI (2 ^ aM A - 1))), some (.int (nI i)), some (.int (nI k)), none]) (S' := [.int ((nI i) >>> (nI k &&& 31))]) rfl (by decide +kernel) rfl ?_
      rw [zz_shr (a := i) (k := k) (by omega) (by omega)]
      refine Ev.run [(.iconst 1, 1)] (pc' := 50) (L' := [some (.ref 359), some (.int (nI (2 ^ aM A - 1))), some (.int (nI i)), some (.int (nI k)), none]) (S' := [.int (nI 1), .int (nI (i / 2 ^ k))]) rfl (by decide +kernel) rfl ?_
      have q1 := zz_tb_le i k
      refine Ev.run [(.iand, 1)] (pc' := 51) (L' := [some (.ref 359), some (.int (nI (2 ^ aM A - 1))), some (.int (nI i)), some (.int (nI k)), none]) (S' := [.int (nI (i / 2 ^ k) &&& nI 1)]) rfl (by decide +kernel) rfl ?_
      rw [zz_and (i / 2 ^ k) 1]
      refine Ev.if_ne (off := 50) (tgt := 101) (by decide +kernel) (by decide) (fun h51 => ?_) (fun h51 => ?_)
      · have h51 : ¬ ((i / 2 ^ k) &&& 1) = 0 := zz_bE_f (by omega) (by omega) h51
        refine Ev.run [(.iinc 3 1, 3)] (pc' := 104) (L' := [some (.ref 359), some (.int (nI (2 ^ aM A - 1))), some (.int (nI i)), some (.int (nI k + 1)), none]) (S' := []) rfl (by decide +kernel) rfl ?_
        rw [nI_1 k]
        refine Ev.goto (off := (-66)) (tgt := 38) (by decide +kernel) (by decide) ?_
        exact ih (k + 1) I1 (by omega) (by omega) hs hl hgt (by rw [mno_t (by cases hq : i.testBit k with | true => rfl | false => exact absurd (zz_tb0.mpr hq) h51)]; exact hat)
      · have h51 : ((i / 2 ^ k) &&& 1) = 0 := zz_bE_t (by omega) (by omega) h51
        refine Ev.run [(.aload_n 0, 1), (.iload_n 3, 1), (.iload_n 2, 1)] (pc' := 57) (L' := [some (.ref 359), some (.int (nI (2 ^ aM A - 1))), some (.int (nI i)), some (.int (nI k)), none]) (S' := [.int (nI i), .int (nI k), .ref 359]) rfl (by decide +kernel) rfl ?_
        refine Ev.callV0 mX7_costs [.int (nI k), .int (nI i)] [] _ rfl lk_RX7_150 (by decide +kernel) (rfl) rfl rfl rfl (Nat.le_of_ble_eq_true rfl) (c_X7_costs I1 J A (hs.sc.mv hV) hW k i (by omega) (by omega) hl) ?_
        rintro _ _ ⟨rfl, rfl⟩
        have q2 := cst_le hW (show k < aM A by omega) i
        have q3 := BT_le hW (i ||| 2 ^ k)
        show Ev _ _ _ _ _ 60 [some (.ref 359), some (.int (nI (2 ^ aM A - 1))), some (.int (nI i)), some (.int (nI k)), none] [.int (nI (cst A k i))] (zz_SH, I1, J) _
        refine Ev.run [(.aload_n 0, 1), (.getfield 55, 3), (.iload_n 2, 1), (.iconst 1, 1), (.iload_n 3, 1), (.ishl, 1)] (pc' := 68) (L' := [some (.ref 359), some (.int (nI (2 ^ aM A - 1))), some (.int (nI i)), some (.int (nI k)), none]) (S' := [.int ((nI 1) <<< (nI k &&& 31)), .int (nI i), .ref 375, .int (nI (cst A k i))]) rfl (by decide +kernel) rfl ?_
        rw [zz_shl1 (k := k) (by omega)]
        refine Ev.run [(.ior, 1)] (pc' := 69) (L' := [some (.ref 359), some (.int (nI (2 ^ aM A - 1))), some (.int (nI i)), some (.int (nI k)), none]) (S' := [.int (nI i ||| nI (2 ^ k)), .ref 375, .int (nI (cst A k i))]) rfl (by decide +kernel) rfl ?_
        rw [zz_or i (2 ^ k)]
        refine Ev.iald (i ||| (2 ^ k)) (by decide +kernel) (rfl) (rfl) (Nat.lt_of_lt_of_le (zz_or_lt (n := aM A) (by omega) (by omega)) hp) (by first | decide | omega) ?_
        dsimp only
        rw [show I1 375 (i ||| 2 ^ k) = nI (BT A (i ||| 2 ^ k)) from hgt _ (zz_or_gt (zz_tb0.mp h51)) (by have := zz_or_lt (a := i) (k := k) (n := aM A) (by omega) (by omega); omega)]
        refine Ev.run [(.iadd, 1)] (pc' := 71) (L' := [some (.ref 359), some (.int (nI (2 ^ aM A - 1))), some (.int (nI i)), some (.int (nI k)), none]) (S' := [.int (nI (cst A k i) + nI (BT A (i ||| 2 ^ k)))]) rfl (by decide +kernel) rfl ?_
        rw [nI_add (cst A k i) (BT A (i ||| 2 ^ k))]
        refine Ev.run [(.istore 4, 2), (.aload_n 0, 1), (.getfield 55, 3), (.iload_n 2, 1), (.iload 4, 2), (.aload_n 0, 1), (.getfield 55, 3), (.iload_n 2, 1)] (pc' := 85) (L' := [some (.ref 359), some (.int (nI (2 ^ aM A - 1))), some (.int (nI i)), some (.int (nI k)), some (.int (nI ((cst A k i) + (BT A (i ||| 2 ^ k)))))]) (S' := [.int (nI i), .ref 375, .int (nI ((cst A k i) + (BT A (i ||| 2 ^ k)))), .int (nI i), .ref 375]) rfl (by decide +kernel) rfl ?_
        refine Ev.iald i (by decide +kernel) (rfl) (rfl) (by omega) (by first | decide | omega) ?_
        dsimp only
        rw [show I1 375 i = nI (mov (mno A (BT A) i k)) from hat]
        refine Ev.icmp_ge (off := 8) (tgt := 94) (by decide +kernel) (by decide) (fun h86 => ?_) (fun h86 => ?_)
        · have h86 : ((cst A k i) + (BT A (i ||| 2 ^ k))) ≥ (mov (mno A (BT A) i k)) := zz_bG_t (by omega) (by omega) h86
          refine Ev.run [(.aload_n 0, 1), (.getfield 55, 3), (.iload_n 2, 1)] (pc' := 99) (L' := [some (.ref 359), some (.int (nI (2 ^ aM A - 1))), some (.int (nI i)), some (.int (nI k)), some (.int (nI ((cst A k i) + (BT A (i ||| 2 ^ k)))))]) (S' := [.int (nI i), .ref 375, .int (nI i), .ref 375]) rfl (by decide +kernel) rfl ?_
          refine Ev.iald i (by decide +kernel) (rfl) (rfl) (by omega) (by first | decide | omega) ?_
          dsimp only
          rw [show I1 375 i = nI (mov (mno A (BT A) i k)) from hat]
          refine Ev.iast i (by decide +kernel) (rfl) (rfl) (by omega) (by first | decide | omega) ?_
          dsimp only
          refine Ev.run [(.iinc 3 1, 3)] (pc' := 104) (L' := [some (.ref 359), some (.int (nI (2 ^ aM A - 1))), some (.int (nI i)), some (.int (nI k + 1)), some (.int (nI ((cst A k i) + (BT A (i ||| 2 ^ k)))))]) (S' := []) rfl (by decide +kernel) rfl ?_
          rw [nI_1 k]
          refine Ev.goto (off := (-66)) (tgt := 38) (by decide +kernel) (by decide) ?_
          refine Ev.weakL (L' := [some (.ref 359), some (.int (nI (2 ^ aM A - 1))), some (.int (nI i)), some (.int (nI (k + 1))), none]) ⟨rfl, rfl, rfl, rfl, trivial⟩ ?_
          refine ih (k + 1) _ (by omega) (by omega) (hs.tr (zS4.up I1 i _)) hl.s4 (fun x hx1 hx2 => ?_) ?_
          · rw [zz_up_eq, zz_upn (by omega)]; exact hgt x hx1 hx2
          · rw [zz_up_eq, zz_ups, ← mov_ge' hW (by omega) (zz_tb0.mp h51) h86]
        · have h86 : ((cst A k i) + (BT A (i ||| 2 ^ k))) < (mov (mno A (BT A) i k)) := zz_bG_f (by omega) (by omega) h86
          refine Ev.run [(.iload 4, 2)] (pc' := 91) (L' := [some (.ref 359), some (.int (nI (2 ^ aM A - 1))), some (.int (nI i)), some (.int (nI k)), some (.int (nI ((cst A k i) + (BT A (i ||| 2 ^ k)))))]) (S' := [.int (nI ((cst A k i) + (BT A (i ||| 2 ^ k)))), .int (nI i), .ref 375]) rfl (by decide +kernel) rfl ?_
          refine Ev.goto (off := 9) (tgt := 100) (by decide +kernel) (by decide) ?_
          refine Ev.iast i (by decide +kernel) (rfl) (rfl) (by omega) (by first | decide | omega) ?_
          dsimp only
          refine Ev.run [(.iinc 3 1, 3)] (pc' := 104) (L' := [some (.ref 359), some (.int (nI (2 ^ aM A - 1))), some (.int (nI i)), some (.int (nI k + 1)), some (.int (nI ((cst A k i) + (BT A (i ||| 2 ^ k)))))]) (S' := []) rfl (by decide +kernel) rfl ?_
          rw [nI_1 k]
          refine Ev.goto (off := (-66)) (tgt := 38) (by decide +kernel) (by decide) ?_
          refine Ev.weakL (L' := [some (.ref 359), some (.int (nI (2 ^ aM A - 1))), some (.int (nI i)), some (.int (nI (k + 1))), none]) ⟨rfl, rfl, rfl, rfl, trivial⟩ ?_
          refine ih (k + 1) _ (by omega) (by omega) (hs.tr (zS4.up I1 i _)) hl.s4 (fun x hx1 hx2 => ?_) ?_
          · rw [zz_up_eq, zz_upn (by omega)]; exact hgt x hx1 hx2
          · rw [zz_up_eq, zz_ups, ← mov_lt' hW (by omega) (zz_tb0.mp h51) h86]

set_option maxRecDepth 100000 in
set_option maxHeartbeats 4000000 in
theorem l_X7_lo2 {sc : Nat × (Nat → Int32)} {d : Nat} (I : Nat → Nat → Int32) (J : Nat → Nat → Int64) (A : zA) (hV : MV (zVm I) A) (hW : WF A) : ∀ (μ : Nat) (i : Nat) (I1 : Nat → Nat → Int32), i < μ → (i < 2 ^ aM A - 1) → (zS4 I I1) → (lb1 A (aM A) I1) → (∀ x, i < x → x ≤ 2 ^ aM A - 1 → I1 375 x = nI (BT A x)) →  Ev sc (d + 7) 0 0 mX7_layOrders 24 [some (.ref 359), some (.int (nI (2 ^ aM A - 1))), some (.int (nI i)), none, none] [] (zz_SH, I1, J) (fun r σ => r = none ∧ ∃ I' : Nat → Nat → Int32, zS4 I I' ∧ lb1 A (aM A) I' ∧ (∀ x, x ≤ 2 ^ aM A - 1 → I' 375 x = nI (BT A x)) ∧ σ = (zz_SH, I', J)) := by
  intro μ
  induction μ with
  | zero => intro i I1 hμ; exact absurd hμ (Nat.not_lt_zero _)
  | succ μ ih =>
    intro i I1 hμ hi hs hl hgt
    have w1 := hW.1.1
    have w2 := hW.1.2.1
    have hp : 2 ^ aM A ≤ 1024 := Nat.le_trans (zz_pw2 w2) (by decide)
    have hp1 : 1 ≤ 2 ^ aM A := Nat.pow_pos (by decide)
    refine Ev.run [(.iload_n 2, 1)] (pc' := 25) (L' := [some (.ref 359), some (.int (nI (2 ^ aM A - 1))), some (.int (nI i)), none, none]) (S' := [.int (nI i)]) rfl (by decide +kernel) rfl ?_
    refine Ev.if_lt (off := 88) (tgt := 113) (by decide +kernel) (by decide) (fun h25 => ?_) (fun h25 => ?_)
    · have h25 : i < 0 := zz_bL_t (by omega) (by omega) h25
      exfalso; omega
    · have h25 : i ≥ 0 := zz_bL_f (by omega) (by omega) h25
      refine Ev.run [(.aload_n 0, 1), (.getfield 55, 3), (.iload_n 2, 1)] (pc' := 33) (L' := [some (.ref 359), some (.int (nI (2 ^ aM A - 1))), some (.int (nI i)), none, none]) (S' := [.int (nI i), .ref 375]) rfl (by decide +kernel) rfl ?_
      refine Ev.ldc (idx := 149) (v := 1000000) (by decide +kernel) (by decide +kernel) ?_
      refine Ev.iast i (by decide +kernel) (rfl) (rfl) (by omega) (by first | decide | omega) ?_
      dsimp only
      refine Ev.run [(.iconst 0, 1), (.istore_n 3, 1)] (pc' := 38) (L' := [some (.ref 359), some (.int (nI (2 ^ aM A - 1))), some (.int (nI i)), some (.int (nI 0)), none]) (S' := []) rfl (by decide +kernel) rfl ?_
      refine l_X7_lo1 I J A hV hW i hi ?_ (aM A + 1) 0 _ (by omega) (by omega) (hs.tr (zS4.up I1 i _)) hl.s4 (fun x hx1 hx2 => ?_) ?_
      rotate_left
      · rw [zz_up_eq, zz_upn (by omega)]; exact hgt x hx1 hx2
      · rw [zz_up_eq, zz_ups]; rfl
      intro I2 hs2 hl2 h2
      show Ev _ _ _ _ _ 107 [some (.ref 359), some (.int (nI (2 ^ aM A - 1))), some (.int (nI i)), none, none] [] (zz_SH, I2, J) _
      refine Ev.run [(.iinc 2 (-1), 3)] (pc' := 110) (L' := [some (.ref 359), some (.int (nI (2 ^ aM A - 1))), some (.int (nI i + (-1))), none, none]) (S' := []) rfl (by decide +kernel) rfl ?_
      refine Ev.goto (off := (-86)) (tgt := 24) (by decide +kernel) (by decide) ?_
      rcases Nat.eq_zero_or_pos i with hi0 | hi0
      · rw [show nI i + (-1) = (-1) from by rw [hi0]; rfl]
        refine Ev.run [(.iload_n 2, 1)] (pc' := 25) (L' := [some (.ref 359), some (.int (nI (2 ^ aM A - 1))), some (.int ((-1))), none, none]) (S' := [.int ((-1))]) rfl (by decide +kernel) rfl ?_
        refine Ev.if_lt (off := 88) (tgt := 113) (by decide +kernel) (by decide) (fun h25 => ?_) (fun h25 => absurd h25 (by decide))
        exact Ev.vret rfl (by decide +kernel) (⟨rfl, I2, hs2, hl2, fun x hx => h2 x (by omega) hx, rfl⟩)
      · rw [show nI i + (-1) = nI (i - 1) from by rw [← pk_m1 (i - 1)]; congr 2; omega]
        exact ih (i - 1) I2 (by omega) (by omega) hs2 hl2 (fun x hx1 hx2 => h2 x (by omega) hx2)

set_option maxRecDepth 100000 in
set_option maxHeartbeats 4000000 in
theorem c_X7_layOrders {sc : Nat × (Nat → Int32)} {d : Nat} (I : Nat → Nat → Int32) (J : Nat → Nat → Int64) (A : zA) (hV : MV (zVm I) A) (hW : WF A) : EvM sc (d + 7) 0 0 mX7_layOrders [.ref 359] (zz_SH, I, J) (fun r σ => r = none ∧ ∃ I' : Nat → Nat → Int32, zS4 I I' ∧ lb1 A (aM A) I' ∧ (∀ x, x ≤ 2 ^ aM A - 1 → I' 375 x = nI (BT A x)) ∧ σ = (zz_SH, I', J)) := by
  have w1 := hW.1.1
  have w2 := hW.1.2.1
  have hp : 2 ^ aM A ≤ 1024 := Nat.le_trans (zz_pw2 w2) (by decide)
  have hp1 : 1 ≤ 2 ^ aM A := Nat.pow_pos (by decide)
  refine EvM.of (by decide) rfl (Nat.le_of_ble_eq_true rfl) ?_
  show Ev _ _ _ _ _ 0 [some (.ref 359), none, none, none, none] [] (zz_SH, I, J) _
  refine Ev.run [(.aload_n 0, 1)] (pc' := 1) (L' := [some (.ref 359), none, none, none, none]) (S' := [.ref 359]) rfl (by decide +kernel) rfl ?_
  refine Ev.callV0 mX7_layBeside [] [] _ rfl lk_RX7_146 (by decide +kernel) (rfl) rfl rfl rfl (Nat.le_of_ble_eq_true rfl) (c_X7_layBeside I J A hV hW) ?_
  rintro _ _ ⟨rfl, I1, hs1, hl1, rfl⟩
  show Ev _ _ _ _ _ 4 [some (.ref 359), none, none, none, none] [] (zz_SH, I1, J) _
  refine Ev.run [(.iconst 1, 1), (.aload_n 0, 1), (.getfield 83, 3)] (pc' := 9) (L' := [some (.ref 359), none, none, none, none]) (S' := [.int (I1 359 8), .int (nI 1)]) rfl (by decide +kernel) rfl ?_
  rw [show I1 359 8 = nI (aM A) from (hs1.mv hV).1.2.1]
  refine Ev.run [(.ishl, 1)] (pc' := 10) (L' := [some (.ref 359), none, none, none, none]) (S' := [.int ((nI 1) <<< (nI (aM A) &&& 31))]) rfl (by decide +kernel) rfl ?_
  rw [zz_shl1 (k := (aM A)) (by omega)]
  refine Ev.run [(.iconst 1, 1), (.isub, 1)] (pc' := 12) (L' := [some (.ref 359), none, none, none, none]) (S' := [.int (nI (2 ^ (aM A)) - nI 1)]) rfl (by decide +kernel) rfl ?_
  rw [show nI (2 ^ (aM A)) - nI 1 = nI (2 ^ aM A - 1) from zz_sub (by omega)]
  refine Ev.run [(.istore_n 1, 1), (.aload_n 0, 1), (.getfield 55, 3), (.iload_n 1, 1), (.iconst 0, 1)] (pc' := 19) (L' := [some (.ref 359), some (.int (nI (2 ^ aM A - 1))), none, none, none]) (S' := [.int (nI 0), .int (nI (2 ^ aM A - 1)), .ref 375]) rfl (by decide +kernel) rfl ?_
  refine Ev.iast (2 ^ aM A - 1) (by decide +kernel) (rfl) (rfl) (by omega) (by first | decide | omega) ?_
  dsimp only
  refine Ev.run [(.iload_n 1, 1), (.iconst 1, 1), (.isub, 1), (.istore_n 2, 1)] (pc' := 24) (L' := [some (.ref 359), some (.int (nI (2 ^ aM A - 1))), some (.int (nI (2 ^ aM A - 1) - nI 1)), none, none]) (S' := []) rfl (by decide +kernel) rfl ?_
  rcases Nat.eq_zero_or_pos (2 ^ aM A - 1) with h0 | h0
  · rw [show nI (2 ^ aM A - 1) - nI 1 = (-1) from by rw [h0]; rfl]
    refine Ev.run [(.iload_n 2, 1)] (pc' := 25) (L' := [some (.ref 359), some (.int (nI (2 ^ aM A - 1))), some (.int ((-1))), none, none]) (S' := [.int ((-1))]) rfl (by decide +kernel) rfl ?_
    refine Ev.if_lt (off := 88) (tgt := 113) (by decide +kernel) (by decide) (fun h25 => ?_) (fun h25 => absurd h25 (by decide))
    exact Ev.vret rfl (by decide +kernel) (⟨rfl, _, hs1.s4.tr (zS4.up I1 _ _), hl1.s4, fun x hx => by rw [show x = 2 ^ aM A - 1 by omega, zz_up_eq, zz_ups, BT_all], rfl⟩)
  · rw [show nI (2 ^ aM A - 1) - nI 1 = nI (2 ^ aM A - 1 - 1) from zz_sub (by omega)]
    refine l_X7_lo2 I J A hV hW (2 ^ aM A - 1) (2 ^ aM A - 1 - 1) _ (by omega) (by omega) (hs1.s4.tr (zS4.up I1 _ _)) hl1.s4 (fun x hx1 hx2 => ?_)
    rw [show x = 2 ^ aM A - 1 by omega, zz_up_eq, zz_ups, BT_all]

set_option maxRecDepth 100000 in
set_option maxHeartbeats 4000000 in
theorem c_X7_order_l {sc : Nat × (Nat → Int32)} {d : Nat} (I : Nat → Nat → Int32) (J : Nat → Nat → Int64) (A : zA) (hV : MV (zVm I) A) (hW : WF A) : EvM sc (d + 8) 0 0 mX7_order [.ref 359, .int ((-1))] (zz_SH, I, J) (fun r σ => r = some (.int (nI (BT A 0))) ∧ ∃ I' : Nat → Nat → Int32, zSc I I' ∧ σ = (zz_SH, I', J)) := by
  have w1 := hW.1.1
  have w2 := hW.1.2.1
  have hp : 2 ^ aM A ≤ 1024 := Nat.le_trans (zz_pw2 w2) (by decide)
  have hp1 : 1 ≤ 2 ^ aM A := Nat.pow_pos (by decide)
  refine EvM.of (by decide) rfl (Nat.le_of_ble_eq_true rfl) ?_
  show Ev _ _ _ _ _ 0 [some (.ref 359), some (.int ((-1))), none, none, none, none, none] [] (zz_SH, I, J) _
  refine Ev.run [(.aload_n 0, 1)] (pc' := 1) (L' := [some (.ref 359), some (.int ((-1))), none, none, none, none, none]) (S' := [.ref 359]) rfl (by decide +kernel) rfl ?_
  refine Ev.callV0 mX7_layOrders [] [] _ rfl lk_RX7_153 (by decide +kernel) (rfl) rfl rfl rfl (Nat.le_of_ble_eq_true rfl) (c_X7_layOrders I J A hV hW) ?_
  rintro _ _ ⟨rfl, I1, hs1, hl1, hb1, rfl⟩
  show Ev _ _ _ _ _ 4 [some (.ref 359), some (.int ((-1))), none, none, none, none, none] [] (zz_SH, I1, J) _
  refine Ev.run [(.iload_n 1, 1), (.iconst (-1), 1)] (pc' := 6) (L' := [some (.ref 359), some (.int ((-1))), none, none, none, none, none]) (S' := [.int ((-1)), .int ((-1))]) rfl (by decide +kernel) rfl ?_
  refine Ev.icmp_ne (off := 10) (tgt := 16) (by decide +kernel) (by decide) (fun h6 => absurd h6 (fun q => q rfl)) (fun h6 => ?_)
  refine Ev.run [(.aload_n 0, 1), (.getfield 55, 3), (.iconst 0, 1)] (pc' := 14) (L' := [some (.ref 359), some (.int ((-1))), none, none, none, none, none]) (S' := [.int (nI 0), .ref 375]) rfl (by decide +kernel) rfl ?_
  refine Ev.iald 0 (by decide +kernel) (rfl) (rfl) (by omega) (by first | decide | omega) ?_
  dsimp only
  rw [show I1 375 0 = nI (BT A 0) from hb1 0 (by omega)]
  exact Ev.iret rfl (by decide +kernel) (⟨rfl, I1, hs1.sc, rfl⟩)

set_option maxRecDepth 100000 in
set_option maxHeartbeats 4000000 in
theorem c_X7_order_o {sc : Nat × (Nat → Int32)} {d : Nat} (I : Nat → Nat → Int32) (J : Nat → Nat → Int64) (A : zA) (hV : MV (zVm I) A) (hW : WF A) (y : Int32) (hy1 : ¬ y = (-1)) (hy : ¬ zz_ix y (aM A)) : EvM sc (d + 8) 0 0 mX7_order [.ref 359, .int y] (zz_SH, I, J) (fun r σ => r = some (.int (-6)) ∧ ∃ I' : Nat → Nat → Int32, zSc I I' ∧ σ = (zz_SH, I', J)) := by
  have w1 := hW.1.1
  have w2 := hW.1.2.1
  have hp : 2 ^ aM A ≤ 1024 := Nat.le_trans (zz_pw2 w2) (by decide)
  have hp1 : 1 ≤ 2 ^ aM A := Nat.pow_pos (by decide)
  refine EvM.of (by decide) rfl (Nat.le_of_ble_eq_true rfl) ?_
  show Ev _ _ _ _ _ 0 [some (.ref 359), some (.int y), none, none, none, none, none] [] (zz_SH, I, J) _
  refine Ev.run [(.aload_n 0, 1)] (pc' := 1) (L' := [some (.ref 359), some (.int y), none, none, none, none, none]) (S' := [.ref 359]) rfl (by decide +kernel) rfl ?_
  refine Ev.callV0 mX7_layOrders [] [] _ rfl lk_RX7_153 (by decide +kernel) (rfl) rfl rfl rfl (Nat.le_of_ble_eq_true rfl) (c_X7_layOrders I J A hV hW) ?_
  rintro _ _ ⟨rfl, I1, hs1, hl1, hb1, rfl⟩
  show Ev _ _ _ _ _ 4 [some (.ref 359), some (.int y), none, none, none, none, none] [] (zz_SH, I1, J) _
  refine Ev.run [(.iload_n 1, 1), (.iconst (-1), 1)] (pc' := 6) (L' := [some (.ref 359), some (.int y), none, none, none, none, none]) (S' := [.int ((-1)), .int y]) rfl (by decide +kernel) rfl ?_
  refine Ev.icmp_ne (off := 10) (tgt := 16) (by decide +kernel) (by decide) (fun h6 => ?_) (fun h6 => absurd h6 hy1)
  refine Ev.run [(.aload_n 0, 1), (.iload_n 1, 1)] (pc' := 18) (L' := [some (.ref 359), some (.int y), none, none, none, none, none]) (S' := [.int y, .ref 359]) rfl (by decide +kernel) rfl ?_
  refine Ev.callV0 mX7_isSentence [.int y] [] _ rfl lk_RX7_107 (by decide +kernel) (rfl) rfl rfl rfl (Nat.le_of_ble_eq_true rfl) (c_X7_isSentence I1 J (aM A) y (hs1.sc.mv hV).1.2.1 (by omega)) ?_
  rintro _ _ ⟨rfl, ⟨rfl, h18⟩ | ⟨rfl, h18⟩⟩
  · exact absurd h18 hy
  · show Ev _ _ _ _ _ 21 [some (.ref 359), some (.int y), none, none, none, none, none] [.int (nI 0)] (zz_SH, I1, J) _
    refine Ev.if_ne (off := 6) (tgt := 27) (by decide +kernel) (by decide) (fun h21 => absurd h21 (by decide)) (fun h21 => ?_)
    refine Ev.run [(.bipush (-6), 2)] (pc' := 26) (L' := [some (.ref 359), some (.int y), none, none, none, none, none]) (S' := [.int ((-6))]) rfl (by decide +kernel) rfl ?_
    exact Ev.iret rfl (by decide +kernel) (⟨rfl, I1, hs1.sc, rfl⟩)

def fpr (A : zA) (i : Nat) : Int32 := match i with
  | 0 => -6
  | i + 1 => nI (nxt A (dn A i))

set_option maxRecDepth 100000 in
set_option maxHeartbeats 4000000 in
theorem l_X7_or2 {sc : Nat × (Nat → Int32)} {d : Nat} (I : Nat → Nat → Int32) (J : Nat → Nat → Int64) (A : zA) (hV : MV (zVm I) A) (hW : WF A) (w : Nat) (hw : w < aM A) (I1 : Nat → Nat → Int32) (hs1 : zS4 I I1) (hl1 : lb1 A (aM A) I1) (hb1 : ∀ x, x ≤ 2 ^ aM A - 1 → I1 375 x = nI (BT A x)) (o i : Nat) (ho : o < 2 ^ aM A) (hm : ∃ k, k < aM A ∧ o.testBit k = false) (hout : Ev sc (d + 8) 0 0 mX7_order 122 [some (.ref 359), some (.int (nI w)), some (.int (nI o)), some (.int (nI (nxt A o))), some (.int (nI i)), none, none] [] (zz_SH, I1, J) (fun r σ => r = some (.int (nI (nxt A (dn A w)))) ∧ ∃ I' : Nat → Nat → Int32, zSc I I' ∧ σ = (zz_SH, I', J))) : ∀ (μ : Nat) (k : Nat), aM A - k < μ → (k ≤ nxt A o) →  Ev sc (d + 8) 0 0 mX7_order 47 [some (.ref 359), some (.int (nI w)), some (.int (nI o)), some (.int ((-6))), some (.int (nI i)), some (.int (nI k)), none] [] (zz_SH, I1, J) (fun r σ => r = some (.int (nI (nxt A (dn A w)))) ∧ ∃ I' : Nat → Nat → Int32, zSc I I' ∧ σ = (zz_SH, I', J)) := by
  intro μ
  induction μ with
  | zero => intro k hμ; exact absurd hμ (Nat.not_lt_zero _)
  | succ μ ih =>
    intro k hμ hk
    have w1 := hW.1.1
    have w2 := hW.1.2.1
    have hp : 2 ^ aM A ≤ 1024 := Nat.le_trans (zz_pw2 w2) (by decide)
    have hp1 : 1 ≤ 2 ^ aM A := Nat.pow_pos (by decide)
    obtain ⟨w9, n1, n2, n3, n4, n5⟩ := nxt_spec hm
    have hB : BT A o = w9 := by rw [BT_rec w2 (zz_full ho hm), n1]; rfl
    refine Ev.run [(.iload 5, 2), (.aload_n 0, 1), (.getfield 83, 3)] (pc' := 53) (L' := [some (.ref 359), some (.int (nI w)), some (.int (nI o)), some (.int ((-6))), some (.int (nI i)), some (.int (nI k)), none]) (S' := [.int (I1 359 8), .int (nI k)]) rfl (by decide +kernel) rfl ?_
    rw [show I1 359 8 = nI (aM A) from (hs1.sc.mv hV).1.2.1]
    refine Ev.icmp_ge (off := 69) (tgt := 122) (by decide +kernel) (by decide) (fun h53 => ?_) (fun h53 => ?_)
    · have h53 : k ≥ (aM A) := zz_bG_t (by omega) (by omega) h53
      exfalso; omega
    · have h53 : k < (aM A) := zz_bG_f (by omega) (by omega) h53
      refine Ev.run [(.iload_n 3, 1)] (pc' := 57) (L' := [some (.ref 359), some (.int (nI w)), some (.int (nI o)), some (.int ((-6))), some (.int (nI i)), some (.int (nI k)), none]) (S' := [.int ((-6))]) rfl (by decide +kernel) rfl ?_
      refine Ev.if_ge (off := 65) (tgt := 122) (by decide +kernel) (by decide) (fun h57 => absurd h57 (by decide)) (fun h57 => ?_)
      refine Ev.run [(.iload_n 2, 1), (.iload 5, 2), (.ishr, 1)] (pc' := 64) (L' := [some (.ref 359), some (.int (nI w)), some (.int (nI o)), some (.int ((-6))), some (.int (nI i)), some (.int (nI k)), none]) (S' := [.int ((nI o) >>> (nI k &&& 31))]) rfl (by decide +kernel) rfl ?_
      rw [zz_shr (a := o) (k := k) (by omega) (by omega)]
      refine Ev.run [(.iconst 1, 1)] (pc' := 65) (L' := [some (.ref 359), some (.int (nI w)), some (.int (nI o)), some (.int ((-6))), some (.int (nI i)), some (.int (nI k)), none]) (S' := [.int (nI 1), .int (nI (o / 2 ^ k))]) rfl (by decide +kernel) rfl ?_
      have q1 := zz_tb_le o k
      refine Ev.run [(.iand, 1)] (pc' := 66) (L' := [some (.ref 359), some (.int (nI w)), some (.int (nI o)), some (.int ((-6))), some (.int (nI i)), some (.int (nI k)), none]) (S' := [.int (nI (o / 2 ^ k) &&& nI 1)]) rfl (by decide +kernel) rfl ?_
      rw [zz_and (o / 2 ^ k) 1]
      refine Ev.if_ne (off := 35) (tgt := 101) (by decide +kernel) (by decide) (fun h66 => ?_) (fun h66 => ?_)
      · have h66 : ¬ ((o / 2 ^ k) &&& 1) = 0 := zz_bE_f (by omega) (by omega) h66
        refine Ev.run [(.iconst 0, 1), (.istore 6, 2), (.iload 6, 2)] (pc' := 106) (L' := [some (.ref 359), some (.int (nI w)), some (.int (nI o)), some (.int ((-6))), some (.int (nI i)), some (.int (nI k)), some (.int (nI 0))]) (S' := [.int (nI 0)]) rfl (by decide +kernel) rfl ?_
        refine Ev.if_eq (off := 8) (tgt := 114) (by decide +kernel) (by decide) (fun h106 => ?_) (fun h106 => absurd h106 (by decide))
        refine Ev.run [(.iload_n 3, 1), (.istore_n 3, 1), (.iinc 5 1, 3)] (pc' := 119) (L' := [some (.ref 359), some (.int (nI w)), some (.int (nI o)), some (.int ((-6))), some (.int (nI i)), some (.int (nI k + 1)), some (.int (nI 0))]) (S' := []) rfl (by decide +kernel) rfl ?_
        rw [nI_1 k]
        refine Ev.goto (off := (-72)) (tgt := 47) (by decide +kernel) (by decide) ?_
        refine Ev.weakL (L' := [some (.ref 359), some (.int (nI w)), some (.int (nI o)), some (.int ((-6))), some (.int (nI i)), some (.int (nI (k + 1))), none]) ⟨rfl, rfl, rfl, rfl, rfl, rfl, trivial⟩ ?_
        have hne : k ≠ nxt A o := fun e => h66 (zz_tb0.mpr (by rw [e]; exact n3))
        exact ih (k + 1) (by omega) (by omega)
      · have h66 : ((o / 2 ^ k) &&& 1) = 0 := zz_bE_t (by omega) (by omega) h66
        refine Ev.run [(.aload_n 0, 1), (.iload 5, 2), (.iload_n 2, 1)] (pc' := 73) (L' := [some (.ref 359), some (.int (nI w)), some (.int (nI o)), some (.int ((-6))), some (.int (nI i)), some (.int (nI k)), none]) (S' := [.int (nI o), .int (nI k), .ref 359]) rfl (by decide +kernel) rfl ?_
        refine Ev.callV0 mX7_costs [.int (nI k), .int (nI o)] [] _ rfl lk_RX7_150 (by decide +kernel) (rfl) rfl rfl rfl (Nat.le_of_ble_eq_true rfl) (c_X7_costs I1 J A (hs1.sc.mv hV) hW k o (by omega) (by omega) hl1) ?_
        rintro _ _ ⟨rfl, rfl⟩
        have q2 := cst_le hW (show k < aM A by omega) o
        have q3 := BT_le hW (o ||| 2 ^ k)
        have q4 := BT_le hW o
        show Ev _ _ _ _ _ 76 [some (.ref 359), some (.int (nI w)), some (.int (nI o)), some (.int ((-6))), some (.int (nI i)), some (.int (nI k)), none] [.int (nI (cst A k o))] (zz_SH, I1, J) _
        refine Ev.run [(.aload_n 0, 1), (.getfield 55, 3), (.iload_n 2, 1), (.iconst 1, 1), (.iload 5, 2), (.ishl, 1)] (pc' := 85) (L' := [some (.ref 359), some (.int (nI w)), some (.int (nI o)), some (.int ((-6))), some (.int (nI i)), some (.int (nI k)), none]) (S' := [.int ((nI 1) <<< (nI k &&& 31)), .int (nI o), .ref 375, .int (nI (cst A k o))]) rfl (by decide +kernel) rfl ?_
        rw [zz_shl1 (k := k) (by omega)]
        refine Ev.run [(.ior, 1)] (pc' := 86) (L' := [some (.ref 359), some (.int (nI w)), some (.int (nI o)), some (.int ((-6))), some (.int (nI i)), some (.int (nI k)), none]) (S' := [.int (nI o ||| nI (2 ^ k)), .ref 375, .int (nI (cst A k o))]) rfl (by decide +kernel) rfl ?_
        rw [zz_or o (2 ^ k)]
        refine Ev.iald (o ||| (2 ^ k)) (by decide +kernel) (rfl) (rfl) (Nat.lt_of_lt_of_le (zz_or_lt (n := aM A) (by omega) (by omega)) hp) (by first | decide | omega) ?_
        dsimp only
        rw [show I1 375 (o ||| 2 ^ k) = nI (BT A (o ||| 2 ^ k)) from hb1 _ (by have := zz_or_lt (a := o) (k := k) (n := aM A) (by omega) (by omega); omega)]
        refine Ev.run [(.iadd, 1)] (pc' := 88) (L' := [some (.ref 359), some (.int (nI w)), some (.int (nI o)), some (.int ((-6))), some (.int (nI i)), some (.int (nI k)), none]) (S' := [.int (nI (cst A k o) + nI (BT A (o ||| 2 ^ k)))]) rfl (by decide +kernel) rfl ?_
        rw [nI_add (cst A k o) (BT A (o ||| 2 ^ k))]
        refine Ev.run [(.aload_n 0, 1), (.getfield 55, 3), (.iload_n 2, 1)] (pc' := 93) (L' := [some (.ref 359), some (.int (nI w)), some (.int (nI o)), some (.int ((-6))), some (.int (nI i)), some (.int (nI k)), none]) (S' := [.int (nI o), .ref 375, .int (nI ((cst A k o) + (BT A (o ||| 2 ^ k))))]) rfl (by decide +kernel) rfl ?_
        refine Ev.iald o (by decide +kernel) (rfl) (rfl) (by omega) (by first | decide | omega) ?_
        dsimp only
        rw [show I1 375 o = nI (BT A o) from hb1 o (by omega)]
        refine Ev.icmp_ne (off := 7) (tgt := 101) (by decide +kernel) (by decide) (fun h94 => ?_) (fun h94 => ?_)
        · have h94 : ¬ ((cst A k o) + (BT A (o ||| 2 ^ k))) = (BT A o) := zz_bE_f (by omega) (by omega) h94
          refine Ev.run [(.iconst 0, 1), (.istore 6, 2), (.iload 6, 2)] (pc' := 106) (L' := [some (.ref 359), some (.int (nI w)), some (.int (nI o)), some (.int ((-6))), some (.int (nI i)), some (.int (nI k)), some (.int (nI 0))]) (S' := [.int (nI 0)]) rfl (by decide +kernel) rfl ?_
          refine Ev.if_eq (off := 8) (tgt := 114) (by decide +kernel) (by decide) (fun h106 => ?_) (fun h106 => absurd h106 (by decide))
          refine Ev.run [(.iload_n 3, 1), (.istore_n 3, 1), (.iinc 5 1, 3)] (pc' := 119) (L' := [some (.ref 359), some (.int (nI w)), some (.int (nI o)), some (.int ((-6))), some (.int (nI i)), some (.int (nI k + 1)), some (.int (nI 0))]) (S' := []) rfl (by decide +kernel) rfl ?_
          rw [nI_1 k]
          refine Ev.goto (off := (-72)) (tgt := 47) (by decide +kernel) (by decide) ?_
          refine Ev.weakL (L' := [some (.ref 359), some (.int (nI w)), some (.int (nI o)), some (.int ((-6))), some (.int (nI i)), some (.int (nI (k + 1))), none]) ⟨rfl, rfl, rfl, rfl, rfl, rfl, trivial⟩ ?_
          have hne : k ≠ nxt A o := fun e => h94 (by rw [hB, n4, e])
          exact ih (k + 1) (by omega) (by omega)
        · have h94 : ((cst A k o) + (BT A (o ||| 2 ^ k))) = (BT A o) := zz_bE_t (by omega) (by omega) h94
          have hkx : k = nxt A o := by
            rcases Nat.lt_or_ge k (nxt A o) with q | q
            · have := n5 k q (zz_tb0.mp h66); omega
            · omega
          refine Ev.run [(.iconst 1, 1)] (pc' := 98) (L' := [some (.ref 359), some (.int (nI w)), some (.int (nI o)), some (.int ((-6))), some (.int (nI i)), some (.int (nI k)), none]) (S' := [.int (nI 1)]) rfl (by decide +kernel) rfl ?_
          refine Ev.goto (off := 4) (tgt := 102) (by decide +kernel) (by decide) ?_
          refine Ev.run [(.istore 6, 2), (.iload 6, 2)] (pc' := 106) (L' := [some (.ref 359), some (.int (nI w)), some (.int (nI o)), some (.int ((-6))), some (.int (nI i)), some (.int (nI k)), some (.int (nI 1))]) (S' := [.int (nI 1)]) rfl (by decide +kernel) rfl ?_
          refine Ev.if_eq (off := 8) (tgt := 114) (by decide +kernel) (by decide) (fun h106 => absurd h106 (by decide)) (fun h106 => ?_)
          refine Ev.run [(.iload 5, 2)] (pc' := 111) (L' := [some (.ref 359), some (.int (nI w)), some (.int (nI o)), some (.int ((-6))), some (.int (nI i)), some (.int (nI k)), some (.int (nI 1))]) (S' := [.int (nI k)]) rfl (by decide +kernel) rfl ?_
          refine Ev.goto (off := 4) (tgt := 115) (by decide +kernel) (by decide) ?_
          refine Ev.run [(.istore_n 3, 1), (.iinc 5 1, 3)] (pc' := 119) (L' := [some (.ref 359), some (.int (nI w)), some (.int (nI o)), some (.int (nI k)), some (.int (nI i)), some (.int (nI k + 1)), some (.int (nI 1))]) (S' := []) rfl (by decide +kernel) rfl ?_
          rw [nI_1 k]
          refine Ev.goto (off := (-72)) (tgt := 47) (by decide +kernel) (by decide) ?_
          refine Ev.run [(.iload 5, 2), (.aload_n 0, 1), (.getfield 83, 3)] (pc' := 53) (L' := [some (.ref 359), some (.int (nI w)), some (.int (nI o)), some (.int (nI k)), some (.int (nI i)), some (.int (nI (k + 1))), some (.int (nI 1))]) (S' := [.int (I1 359 8), .int (nI (k + 1))]) rfl (by decide +kernel) rfl ?_
          rw [show I1 359 8 = nI (aM A) from (hs1.sc.mv hV).1.2.1]
          refine Ev.icmp_ge (off := 69) (tgt := 122) (by decide +kernel) (by decide) (fun g53 => ?_) (fun g53 => ?_)
          · have g53 : (k + 1) ≥ (aM A) := zz_bG_t (by omega) (by omega) g53
            refine Ev.weakL (L' := [some (.ref 359), some (.int (nI w)), some (.int (nI o)), some (.int (nI k)), some (.int (nI i)), none, none]) ⟨rfl, rfl, rfl, rfl, rfl, trivial⟩ ?_
            rw [hkx]
            exact hout
          · have g53 : (k + 1) < (aM A) := zz_bG_f (by omega) (by omega) g53
            refine Ev.run [(.iload_n 3, 1)] (pc' := 57) (L' := [some (.ref 359), some (.int (nI w)), some (.int (nI o)), some (.int (nI k)), some (.int (nI i)), some (.int (nI (k + 1))), some (.int (nI 1))]) (S' := [.int (nI k)]) rfl (by decide +kernel) rfl ?_
            refine Ev.if_ge (off := 65) (tgt := 122) (by decide +kernel) (by decide) (fun g57 => ?_) (fun g57 => ?_)
            · have g57 : k ≥ 0 := zz_bG_t (by omega) (by omega) g57
              refine Ev.weakL (L' := [some (.ref 359), some (.int (nI w)), some (.int (nI o)), some (.int (nI k)), some (.int (nI i)), none, none]) ⟨rfl, rfl, rfl, rfl, rfl, trivial⟩ ?_
              rw [hkx]
              exact hout
            · have g57 : k < 0 := zz_bG_f (by omega) (by omega) g57
              exfalso; omega

set_option maxRecDepth 100000 in
set_option maxHeartbeats 4000000 in
theorem l_X7_or1 {sc : Nat × (Nat → Int32)} {d : Nat} (I : Nat → Nat → Int32) (J : Nat → Nat → Int64) (A : zA) (hV : MV (zVm I) A) (hW : WF A) (w : Nat) (hw : w < aM A) (I1 : Nat → Nat → Int32) (hs1 : zS4 I I1) (hl1 : lb1 A (aM A) I1) (hb1 : ∀ x, x ≤ 2 ^ aM A - 1 → I1 375 x = nI (BT A x)) : ∀ (μ : Nat) (i : Nat), w + 1 - i < μ → (i ≤ w + 1) →  Ev sc (d + 8) 0 0 mX7_order 35 [some (.ref 359), some (.int (nI w)), some (.int (nI (dn A i))), some (.int (fpr A i)), some (.int (nI i)), none, none] [] (zz_SH, I1, J) (fun r σ => r = some (.int (nI (nxt A (dn A w)))) ∧ ∃ I' : Nat → Nat → Int32, zSc I I' ∧ σ = (zz_SH, I', J)) := by
  intro μ
  induction μ with
  | zero => intro i hμ; exact absurd hμ (Nat.not_lt_zero _)
  | succ μ ih =>
    intro i hμ hi
    have w1 := hW.1.1
    have w2 := hW.1.2.1
    have hp : 2 ^ aM A ≤ 1024 := Nat.le_trans (zz_pw2 w2) (by decide)
    have hp1 : 1 ≤ 2 ^ aM A := Nat.pow_pos (by decide)
    refine Ev.run [(.iload 4, 2), (.iload_n 1, 1)] (pc' := 38) (L' := [some (.ref 359), some (.int (nI w)), some (.int (nI (dn A i))), some (.int (fpr A i)), some (.int (nI i)), none, none]) (S' := [.int (nI w), .int (nI i)]) rfl (by decide +kernel) rfl ?_
    refine Ev.icmp_gt (off := 96) (tgt := 134) (by decide +kernel) (by decide) (fun h38 => ?_) (fun h38 => ?_)
    · have h38 : i > w := zz_bL'_t (by omega) (by omega) h38
      have hiw : i = w + 1 := by omega
      refine Ev.run [(.iload_n 3, 1)] (pc' := 135) (L' := [some (.ref 359), some (.int (nI w)), some (.int (nI (dn A i))), some (.int (fpr A i)), some (.int (nI i)), none, none]) (S' := [.int (fpr A i)]) rfl (by decide +kernel) rfl ?_
      exact Ev.iret rfl (by decide +kernel) (⟨by rw [hiw]; rfl, I1, hs1.sc, rfl⟩)
    · have h38 : i ≤ w := zz_bL'_f (by omega) (by omega) h38
      refine Ev.run [(.bipush (-6), 2), (.istore_n 3, 1), (.iconst 0, 1), (.istore 5, 2)] (pc' := 47) (L' := [some (.ref 359), some (.int (nI w)), some (.int (nI (dn A i))), some (.int ((-6))), some (.int (nI i)), some (.int (nI 0)), none]) (S' := []) rfl (by decide +kernel) rfl ?_
      obtain ⟨d1, d2⟩ := dn_spec A i (by omega)
      refine l_X7_or2 I J A hV hW w hw I1 hs1 hl1 hb1 (dn A i) i d1 (dn_miss A (by omega)) ?_ (aM A + 1) 0 (by omega) (by omega)
      obtain ⟨w9, n1, n2, n3, n4, n5⟩ := nxt_spec (A := A) (dn_miss A (show i < aM A by omega))
      show Ev _ _ _ _ _ 122 [some (.ref 359), some (.int (nI w)), some (.int (nI (dn A i))), some (.int (nI (nxt A (dn A i)))), some (.int (nI i)), none, none] [] (zz_SH, I1, J) _
      refine Ev.run [(.iload_n 2, 1), (.iconst 1, 1), (.iload_n 3, 1), (.ishl, 1)] (pc' := 126) (L' := [some (.ref 359), some (.int (nI w)), some (.int (nI (dn A i))), some (.int (nI (nxt A (dn A i)))), some (.int (nI i)), none, none]) (S' := [.int ((nI 1) <<< (nI (nxt A (dn A i)) &&& 31)), .int (nI (dn A i))]) rfl (by decide +kernel) rfl ?_
      rw [zz_shl1 (k := (nxt A (dn A i))) (by omega)]
      refine Ev.run [(.ior, 1)] (pc' := 127) (L' := [some (.ref 359), some (.int (nI w)), some (.int (nI (dn A i))), some (.int (nI (nxt A (dn A i)))), some (.int (nI i)), none, none]) (S' := [.int (nI (dn A i) ||| nI (2 ^ (nxt A (dn A i))))]) rfl (by decide +kernel) rfl ?_
      rw [zz_or (dn A i) (2 ^ (nxt A (dn A i)))]
      refine Ev.run [(.istore_n 2, 1), (.iinc 4 1, 3)] (pc' := 131) (L' := [some (.ref 359), some (.int (nI w)), some (.int (nI ((dn A i) ||| (2 ^ (nxt A (dn A i)))))), some (.int (nI (nxt A (dn A i)))), some (.int (nI i + 1)), none, none]) (S' := []) rfl (by decide +kernel) rfl ?_
      rw [nI_1 i]
      refine Ev.goto (off := (-96)) (tgt := 35) (by decide +kernel) (by decide) ?_
      rw [show dn A i ||| 2 ^ nxt A (dn A i) = dn A (i + 1) from by rw [dn]]
      exact ih (i + 1) (by omega) (by omega)

set_option maxRecDepth 100000 in
set_option maxHeartbeats 4000000 in
theorem c_X7_order_i {sc : Nat × (Nat → Int32)} {d : Nat} (I : Nat → Nat → Int32) (J : Nat → Nat → Int64) (A : zA) (hV : MV (zVm I) A) (hW : WF A) (w : Nat) (hw : w < aM A) : EvM sc (d + 8) 0 0 mX7_order [.ref 359, .int (nI w)] (zz_SH, I, J) (fun r σ => r = some (.int (nI (nxt A (dn A w)))) ∧ ∃ I' : Nat → Nat → Int32, zSc I I' ∧ σ = (zz_SH, I', J)) := by
  have w1 := hW.1.1
  have w2 := hW.1.2.1
  have hp : 2 ^ aM A ≤ 1024 := Nat.le_trans (zz_pw2 w2) (by decide)
  have hp1 : 1 ≤ 2 ^ aM A := Nat.pow_pos (by decide)
  refine EvM.of (by decide) rfl (Nat.le_of_ble_eq_true rfl) ?_
  show Ev _ _ _ _ _ 0 [some (.ref 359), some (.int (nI w)), none, none, none, none, none] [] (zz_SH, I, J) _
  refine Ev.run [(.aload_n 0, 1)] (pc' := 1) (L' := [some (.ref 359), some (.int (nI w)), none, none, none, none, none]) (S' := [.ref 359]) rfl (by decide +kernel) rfl ?_
  refine Ev.callV0 mX7_layOrders [] [] _ rfl lk_RX7_153 (by decide +kernel) (rfl) rfl rfl rfl (Nat.le_of_ble_eq_true rfl) (c_X7_layOrders I J A hV hW) ?_
  rintro _ _ ⟨rfl, I1, hs1, hl1, hb1, rfl⟩
  show Ev _ _ _ _ _ 4 [some (.ref 359), some (.int (nI w)), none, none, none, none, none] [] (zz_SH, I1, J) _
  refine Ev.run [(.iload_n 1, 1), (.iconst (-1), 1)] (pc' := 6) (L' := [some (.ref 359), some (.int (nI w)), none, none, none, none, none]) (S' := [.int ((-1)), .int (nI w)]) rfl (by decide +kernel) rfl ?_
  refine Ev.icmp_ne (off := 10) (tgt := 16) (by decide +kernel) (by decide) (fun h6 => ?_) (fun h6 => absurd h6 (zz_nm w (by omega)))
  refine Ev.run [(.aload_n 0, 1), (.iload_n 1, 1)] (pc' := 18) (L' := [some (.ref 359), some (.int (nI w)), none, none, none, none, none]) (S' := [.int (nI w), .ref 359]) rfl (by decide +kernel) rfl ?_
  refine Ev.callV0 mX7_isSentence [.int (nI w)] [] _ rfl lk_RX7_107 (by decide +kernel) (rfl) rfl rfl rfl (Nat.le_of_ble_eq_true rfl) (c_X7_isSentence I1 J (aM A) (nI w) (hs1.sc.mv hV).1.2.1 (by omega)) ?_
  rintro _ _ ⟨rfl, ⟨rfl, h18⟩ | ⟨rfl, h18⟩⟩
  · show Ev _ _ _ _ _ 21 [some (.ref 359), some (.int (nI w)), none, none, none, none, none] [.int (nI 1)] (zz_SH, I1, J) _
    refine Ev.if_ne (off := 6) (tgt := 27) (by decide +kernel) (by decide) (fun h21 => ?_) (fun h21 => absurd h21 (by decide))
    refine Ev.run [(.iconst 0, 1), (.istore_n 2, 1), (.bipush (-6), 2), (.istore_n 3, 1), (.iconst 0, 1), (.istore 4, 2)] (pc' := 35) (L' := [some (.ref 359), some (.int (nI w)), some (.int (nI 0)), some (.int ((-6))), some (.int (nI 0)), none, none]) (S' := []) rfl (by decide +kernel) rfl ?_
    exact l_X7_or1 I J A hV hW w hw I1 hs1 hl1 hb1 (w + 2) 0 (by omega) (by omega)
  · exact absurd ⟨w, hw, rfl⟩ h18
