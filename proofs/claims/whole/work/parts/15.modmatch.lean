/-! ===== the model: matches ===== -/
theorem mtc_ne {A : zA} {k p : Nat} (h : ¬ lkP A k p = 100) : mtc A k p = lkP A k p := by
  unfold mtc
  exact if_neg h
theorem mtc_no {A : zA} {k p : Nat} (h : lkP A k p = 100) (hb : aB A p = none) : mtc A k p = lkP A k p := by
  unfold mtc
  rw [if_pos h, h]
  simp only [hb]
theorem mtc_0 {A : zA} {k p : Nat} (h : lkP A k p = 100) (hk : k ≤ 0) : mtc A k p = lkP A k p := by
  have e : k = 0 := by omega
  subst e
  unfold mtc
  rw [if_pos h, h]
  cases aB A p <;> rfl
theorem mtc_y {A : zA} {k p q : Nat} (h : lkP A k p = 100) (hb : aB A p = some q) (hk : 0 < k) (h2 : lkP A (k - 1) q = 100) : mtc A k p = 101 := by
  obtain ⟨j, rfl⟩ : ∃ j, k = j + 1 := ⟨k - 1, by omega⟩
  unfold mtc
  rw [if_pos h]
  simp only [hb]
  exact if_pos h2
theorem mtc_n {A : zA} {k p q : Nat} (h : lkP A k p = 100) (hb : aB A p = some q) (hk : 0 < k) (h2 : ¬ lkP A (k - 1) q = 100) : mtc A k p = lkP A k p := by
  obtain ⟨j, rfl⟩ : ∃ j, k = j + 1 := ⟨k - 1, by omega⟩
  unfold mtc
  rw [if_pos h, h]
  simp only [hb]
  exact if_neg h2

set_option maxRecDepth 100000 in
set_option maxHeartbeats 4000000 in
theorem c_X7_matchOf_n {sc : Nat × (Nat → Int32)} {d : Nat} (I : Nat → Nat → Int32) (J : Nat → Nat → Int64) (A : zA) (hV : MV (zVm I) A) (hW : WF A) (k p : Nat) (hk : k < aM A) (hp : p < aN A) (hb : aB A p = none) : EvM sc (d + 5) 0 0 mX7_matchOf [.ref 359, .int (nI k), .int (nI p)] (zz_SH, I, J) (fun r σ => r = some (.int (nI (mtc A k p))) ∧ ∃ I' : Nat → Nat → Int32, zS1 I I' ∧ σ = (zz_SH, I', J)) := by
  have w1 := hW.1.1
  have w2 := hW.1.2.1
  refine EvM.of (by decide) rfl (Nat.le_of_ble_eq_true rfl) ?_
  show Ev _ _ _ _ _ 0 [some (.ref 359), some (.int (nI k)), some (.int (nI p)), none, none] [] (zz_SH, I, J) _
  refine Ev.run [(.aload_n 0, 1), (.iload_n 1, 1), (.iload_n 2, 1)] (pc' := 3) (L' := [some (.ref 359), some (.int (nI k)), some (.int (nI p)), none, none]) (S' := [.int (nI p), .int (nI k), .ref 359]) rfl (by decide +kernel) rfl ?_
  refine Ev.callV0 mX7_likePair [.int (nI k), .int (nI p)] [] _ rfl lk_RX7_121 (by decide +kernel) (rfl) rfl rfl rfl (Nat.le_of_ble_eq_true rfl) (c_X7_likePair I J A hV hW k p hk hp) ?_
  rintro _ _ ⟨rfl, I1, hs_I1, rfl⟩
  have hV1 := hs_I1.mv hV
  have b1 := lik_le (tt A k) (tz A k) (ff A p) (fz A p)
  have b1 : lkP A k p ≤ 100 := b1
  show Ev _ _ _ _ _ 6 [some (.ref 359), some (.int (nI k)), some (.int (nI p)), none, none] [.int (nI (lkP A k p))] (zz_SH, I1, J) _
  refine Ev.run [(.istore_n 3, 1), (.iload_n 3, 1), (.bipush 100, 2)] (pc' := 10) (L' := [some (.ref 359), some (.int (nI k)), some (.int (nI p)), some (.int (nI (lkP A k p))), none]) (S' := [.int (nI 100), .int (nI (lkP A k p))]) rfl (by decide +kernel) rfl ?_
  refine Ev.icmp_ne (off := 38) (tgt := 48) (by decide +kernel) (by decide) (fun h10 => ?_) (fun h10 => ?_)
  · have h10 : ¬ (lkP A k p) = 100 := zz_bE_f (by omega) (by omega) h10
    refine Ev.run [(.iconst 0, 1), (.istore 4, 2), (.iload 4, 2)] (pc' := 53) (L' := [some (.ref 359), some (.int (nI k)), some (.int (nI p)), some (.int (nI (lkP A k p))), some (.int (nI 0))]) (S' := [.int (nI 0)]) rfl (by decide +kernel) rfl ?_
    refine Ev.if_eq (off := 8) (tgt := 61) (by decide +kernel) (by decide) (fun h53 => ?_) (fun h53 => absurd h53 (by decide))
    refine Ev.run [(.iload_n 3, 1)] (pc' := 62) (L' := [some (.ref 359), some (.int (nI k)), some (.int (nI p)), some (.int (nI (lkP A k p))), some (.int (nI 0))]) (S' := [.int (nI (lkP A k p))]) rfl (by decide +kernel) rfl ?_
    exact Ev.iret rfl (by decide +kernel) (⟨by rw [mtc_ne h10], I1, hs_I1, rfl⟩)
  · have h10 : (lkP A k p) = 100 := zz_bE_t (by omega) (by omega) h10
    refine Ev.run [(.aload_n 0, 1), (.getfield 13, 3), (.iload_n 2, 1)] (pc' := 18) (L' := [some (.ref 359), some (.int (nI k)), some (.int (nI p)), some (.int (nI (lkP A k p))), none]) (S' := [.int (nI p), .ref 361]) rfl (by decide +kernel) rfl ?_
    refine Ev.iald p (by decide +kernel) (rfl) (rfl) (by omega) (by first | decide | omega) ?_
    dsimp only
    rw [show I1 361 p = (-6) from by rw [show I1 361 p = ob (aB A p) from (hV1.2.1 p hp).1, hb]; rfl]
    refine Ev.if_lt (off := 29) (tgt := 48) (by decide +kernel) (by decide) (fun h19 => ?_) (fun h19 => absurd h19 (by decide))
    refine Ev.run [(.iconst 0, 1), (.istore 4, 2), (.iload 4, 2)] (pc' := 53) (L' := [some (.ref 359), some (.int (nI k)), some (.int (nI p)), some (.int (nI (lkP A k p))), some (.int (nI 0))]) (S' := [.int (nI 0)]) rfl (by decide +kernel) rfl ?_
    refine Ev.if_eq (off := 8) (tgt := 61) (by decide +kernel) (by decide) (fun h53 => ?_) (fun h53 => absurd h53 (by decide))
    refine Ev.run [(.iload_n 3, 1)] (pc' := 62) (L' := [some (.ref 359), some (.int (nI k)), some (.int (nI p)), some (.int (nI (lkP A k p))), some (.int (nI 0))]) (S' := [.int (nI (lkP A k p))]) rfl (by decide +kernel) rfl ?_
    exact Ev.iret rfl (by decide +kernel) (⟨by rw [mtc_no h10 hb], I1, hs_I1, rfl⟩)

set_option maxRecDepth 100000 in
set_option maxHeartbeats 4000000 in
theorem c_X7_matchOf_s {sc : Nat × (Nat → Int32)} {d : Nat} (I : Nat → Nat → Int32) (J : Nat → Nat → Int64) (A : zA) (hV : MV (zVm I) A) (hW : WF A) (k p : Nat) (hk : k < aM A) (hp : p < aN A) (q : Nat) (hb : aB A p = some q) : EvM sc (d + 5) 0 0 mX7_matchOf [.ref 359, .int (nI k), .int (nI p)] (zz_SH, I, J) (fun r σ => r = some (.int (nI (mtc A k p))) ∧ ∃ I' : Nat → Nat → Int32, zS1 I I' ∧ σ = (zz_SH, I', J)) := by
  have w1 := hW.1.1
  have w2 := hW.1.2.1
  have hqp := (hW.2.1 p hp).2.2.2 q hb
  refine EvM.of (by decide) rfl (Nat.le_of_ble_eq_true rfl) ?_
  show Ev _ _ _ _ _ 0 [some (.ref 359), some (.int (nI k)), some (.int (nI p)), none, none] [] (zz_SH, I, J) _
  refine Ev.run [(.aload_n 0, 1), (.iload_n 1, 1), (.iload_n 2, 1)] (pc' := 3) (L' := [some (.ref 359), some (.int (nI k)), some (.int (nI p)), none, none]) (S' := [.int (nI p), .int (nI k), .ref 359]) rfl (by decide +kernel) rfl ?_
  refine Ev.callV0 mX7_likePair [.int (nI k), .int (nI p)] [] _ rfl lk_RX7_121 (by decide +kernel) (rfl) rfl rfl rfl (Nat.le_of_ble_eq_true rfl) (c_X7_likePair I J A hV hW k p hk hp) ?_
  rintro _ _ ⟨rfl, I1, hs_I1, rfl⟩
  have hV1 := hs_I1.mv hV
  have b1 := lik_le (tt A k) (tz A k) (ff A p) (fz A p)
  have b1 : lkP A k p ≤ 100 := b1
  show Ev _ _ _ _ _ 6 [some (.ref 359), some (.int (nI k)), some (.int (nI p)), none, none] [.int (nI (lkP A k p))] (zz_SH, I1, J) _
  refine Ev.run [(.istore_n 3, 1), (.iload_n 3, 1), (.bipush 100, 2)] (pc' := 10) (L' := [some (.ref 359), some (.int (nI k)), some (.int (nI p)), some (.int (nI (lkP A k p))), none]) (S' := [.int (nI 100), .int (nI (lkP A k p))]) rfl (by decide +kernel) rfl ?_
  refine Ev.icmp_ne (off := 38) (tgt := 48) (by decide +kernel) (by decide) (fun h10 => ?_) (fun h10 => ?_)
  · have h10 : ¬ (lkP A k p) = 100 := zz_bE_f (by omega) (by omega) h10
    refine Ev.run [(.iconst 0, 1), (.istore 4, 2), (.iload 4, 2)] (pc' := 53) (L' := [some (.ref 359), some (.int (nI k)), some (.int (nI p)), some (.int (nI (lkP A k p))), some (.int (nI 0))]) (S' := [.int (nI 0)]) rfl (by decide +kernel) rfl ?_
    refine Ev.if_eq (off := 8) (tgt := 61) (by decide +kernel) (by decide) (fun h53 => ?_) (fun h53 => absurd h53 (by decide))
    refine Ev.run [(.iload_n 3, 1)] (pc' := 62) (L' := [some (.ref 359), some (.int (nI k)), some (.int (nI p)), some (.int (nI (lkP A k p))), some (.int (nI 0))]) (S' := [.int (nI (lkP A k p))]) rfl (by decide +kernel) rfl ?_
    exact Ev.iret rfl (by decide +kernel) (⟨by rw [mtc_ne h10], I1, hs_I1, rfl⟩)
  · have h10 : (lkP A k p) = 100 := zz_bE_t (by omega) (by omega) h10
    refine Ev.run [(.aload_n 0, 1), (.getfield 13, 3), (.iload_n 2, 1)] (pc' := 18) (L' := [some (.ref 359), some (.int (nI k)), some (.int (nI p)), some (.int (nI (lkP A k p))), none]) (S' := [.int (nI p), .ref 361]) rfl (by decide +kernel) rfl ?_
    refine Ev.iald p (by decide +kernel) (rfl) (rfl) (by omega) (by first | decide | omega) ?_
    dsimp only
    rw [show I1 361 p = nI q from by rw [show I1 361 p = ob (aB A p) from (hV1.2.1 p hp).1, hb]; rfl]
    refine Ev.if_lt (off := 29) (tgt := 48) (by decide +kernel) (by decide) (fun h19 => ?_) (fun h19 => ?_)
    · have h19 : q < 0 := zz_bL_t (by omega) (by omega) h19
      exfalso; omega
    · have h19 : q ≥ 0 := zz_bL_f (by omega) (by omega) h19
      refine Ev.run [(.iload_n 1, 1)] (pc' := 23) (L' := [some (.ref 359), some (.int (nI k)), some (.int (nI p)), some (.int (nI (lkP A k p))), none]) (S' := [.int (nI k)]) rfl (by decide +kernel) rfl ?_
      refine Ev.if_le (off := 25) (tgt := 48) (by decide +kernel) (by decide) (fun h23 => ?_) (fun h23 => ?_)
      · have h23 : k ≤ 0 := zz_bG'_t (by omega) (by omega) h23
        refine Ev.run [(.iconst 0, 1), (.istore 4, 2), (.iload 4, 2)] (pc' := 53) (L' := [some (.ref 359), some (.int (nI k)), some (.int (nI p)), some (.int (nI (lkP A k p))), some (.int (nI 0))]) (S' := [.int (nI 0)]) rfl (by decide +kernel) rfl ?_
        refine Ev.if_eq (off := 8) (tgt := 61) (by decide +kernel) (by decide) (fun h53 => ?_) (fun h53 => absurd h53 (by decide))
        refine Ev.run [(.iload_n 3, 1)] (pc' := 62) (L' := [some (.ref 359), some (.int (nI k)), some (.int (nI p)), some (.int (nI (lkP A k p))), some (.int (nI 0))]) (S' := [.int (nI (lkP A k p))]) rfl (by decide +kernel) rfl ?_
        exact Ev.iret rfl (by decide +kernel) (⟨by rw [mtc_0 h10 h23], I1, hs_I1, rfl⟩)
      · have h23 : k > 0 := zz_bG'_f (by omega) (by omega) h23
        refine Ev.run [(.aload_n 0, 1), (.iload_n 1, 1), (.iconst 1, 1), (.isub, 1)] (pc' := 30) (L' := [some (.ref 359), some (.int (nI k)), some (.int (nI p)), some (.int (nI (lkP A k p))), none]) (S' := [.int (nI k - nI 1), .ref 359]) rfl (by decide +kernel) rfl ?_
        rw [show nI k - nI 1 = nI (k - 1) from zz_sub (by omega)]
        refine Ev.run [(.aload_n 0, 1), (.getfield 13, 3), (.iload_n 2, 1)] (pc' := 35) (L' := [some (.ref 359), some (.int (nI k)), some (.int (nI p)), some (.int (nI (lkP A k p))), none]) (S' := [.int (nI p), .ref 361, .int (nI (k - 1)), .ref 359]) rfl (by decide +kernel) rfl ?_
        refine Ev.iald p (by decide +kernel) (rfl) (rfl) (by omega) (by first | decide | omega) ?_
        dsimp only
        rw [show I1 361 p = nI q from by rw [show I1 361 p = ob (aB A p) from (hV1.2.1 p hp).1, hb]; rfl]
        refine Ev.callV0 mX7_likePair [.int (nI (k - 1)), .int (nI q)] [] _ rfl lk_RX7_121 (by decide +kernel) (rfl) rfl rfl rfl (Nat.le_of_ble_eq_true rfl) (c_X7_likePair I1 J A hV1 hW (k - 1) q (by omega) (by omega)) ?_
        rintro _ _ ⟨rfl, I2, hs_I2, rfl⟩
        have b2 : lkP A (k - 1) q ≤ 100 := lik_le _ _ _ _
        show Ev _ _ _ _ _ 39 [some (.ref 359), some (.int (nI k)), some (.int (nI p)), some (.int (nI (lkP A k p))), none] [.int (nI (lkP A (k - 1) q))] (zz_SH, I2, J) _
        refine Ev.run [(.bipush 100, 2)] (pc' := 41) (L' := [some (.ref 359), some (.int (nI k)), some (.int (nI p)), some (.int (nI (lkP A k p))), none]) (S' := [.int (nI 100), .int (nI (lkP A (k - 1) q))]) rfl (by decide +kernel) rfl ?_
        refine Ev.icmp_ne (off := 7) (tgt := 48) (by decide +kernel) (by decide) (fun h41 => ?_) (fun h41 => ?_)
        · have h41 : ¬ (lkP A (k - 1) q) = 100 := zz_bE_f (by omega) (by omega) h41
          refine Ev.run [(.iconst 0, 1), (.istore 4, 2), (.iload 4, 2)] (pc' := 53) (L' := [some (.ref 359), some (.int (nI k)), some (.int (nI p)), some (.int (nI (lkP A k p))), some (.int (nI 0))]) (S' := [.int (nI 0)]) rfl (by decide +kernel) rfl ?_
          refine Ev.if_eq (off := 8) (tgt := 61) (by decide +kernel) (by decide) (fun h53 => ?_) (fun h53 => absurd h53 (by decide))
          refine Ev.run [(.iload_n 3, 1)] (pc' := 62) (L' := [some (.ref 359), some (.int (nI k)), some (.int (nI p)), some (.int (nI (lkP A k p))), some (.int (nI 0))]) (S' := [.int (nI (lkP A k p))]) rfl (by decide +kernel) rfl ?_
          exact Ev.iret rfl (by decide +kernel) (⟨by rw [mtc_n h10 hb (by omega) h41], I2, hs_I1.tr hs_I2, rfl⟩)
        · have h41 : (lkP A (k - 1) q) = 100 := zz_bE_t (by omega) (by omega) h41
          refine Ev.run [(.iconst 1, 1)] (pc' := 45) (L' := [some (.ref 359), some (.int (nI k)), some (.int (nI p)), some (.int (nI (lkP A k p))), none]) (S' := [.int (nI 1)]) rfl (by decide +kernel) rfl ?_
          refine Ev.goto (off := 4) (tgt := 49) (by decide +kernel) (by decide) ?_
          refine Ev.run [(.istore 4, 2), (.iload 4, 2)] (pc' := 53) (L' := [some (.ref 359), some (.int (nI k)), some (.int (nI p)), some (.int (nI (lkP A k p))), some (.int (nI 1))]) (S' := [.int (nI 1)]) rfl (by decide +kernel) rfl ?_
          refine Ev.if_eq (off := 8) (tgt := 61) (by decide +kernel) (by decide) (fun h53 => absurd h53 (by decide)) (fun h53 => ?_)
          refine Ev.run [(.bipush 101, 2)] (pc' := 58) (L' := [some (.ref 359), some (.int (nI k)), some (.int (nI p)), some (.int (nI (lkP A k p))), some (.int (nI 1))]) (S' := [.int (nI 101)]) rfl (by decide +kernel) rfl ?_
          refine Ev.goto (off := 4) (tgt := 62) (by decide +kernel) (by decide) ?_
          exact Ev.iret rfl (by decide +kernel) (⟨by rw [mtc_y h10 hb (by omega) h41], I2, hs_I1.tr hs_I2, rfl⟩)

theorem c_X7_matchOf {sc : Nat × (Nat → Int32)} {d : Nat} (I : Nat → Nat → Int32) (J : Nat → Nat → Int64) (A : zA) (hV : MV (zVm I) A) (hW : WF A) (k p : Nat) (hk : k < aM A) (hp : p < aN A) : EvM sc (d + 5) 0 0 mX7_matchOf [.ref 359, .int (nI k), .int (nI p)] (zz_SH, I, J) (fun r σ => r = some (.int (nI (mtc A k p))) ∧ ∃ I' : Nat → Nat → Int32, zS1 I I' ∧ σ = (zz_SH, I', J)) := by
  cases hb : aB A p with
  | none => exact c_X7_matchOf_n I J A hV hW k p hk hp hb
  | some q => exact c_X7_matchOf_s I J A hV hW k p hk hp q hb

set_option maxRecDepth 100000 in
set_option maxHeartbeats 4000000 in
theorem c_X7_match_in {sc : Nat × (Nat → Int32)} {d : Nat} (I : Nat → Nat → Int32) (J : Nat → Nat → Int64) (A : zA) (hV : MV (zVm I) A) (hW : WF A) (k p : Nat) (hk : k < aM A) (hp : p < aN A) : EvM sc (d + 6) 0 0 mX7_match [.ref 359, .int (nI k), .int (nI p)] (zz_SH, I, J) (fun r σ => r = some (.int (nI (mtc A k p))) ∧ ∃ I' : Nat → Nat → Int32, zS1 I I' ∧ σ = (zz_SH, I', J)) := by
  have w1 := hW.1.1
  have w2 := hW.1.2.1
  refine EvM.of (by decide) rfl (Nat.le_of_ble_eq_true rfl) ?_
  show Ev _ _ _ _ _ 0 [some (.ref 359), some (.int (nI k)), some (.int (nI p))] [] (zz_SH, I, J) _
  refine Ev.run [(.aload_n 0, 1), (.iload_n 1, 1)] (pc' := 2) (L' := [some (.ref 359), some (.int (nI k)), some (.int (nI p))]) (S' := [.int (nI k), .ref 359]) rfl (by decide +kernel) rfl ?_
  refine Ev.callV0 mX7_isSentence [.int (nI k)] [] _ rfl lk_RX7_107 (by decide +kernel) (rfl) rfl rfl rfl (Nat.le_of_ble_eq_true rfl) (c_X7_isSentence I J (aM A) (nI k) hV.1.2.1 (by omega)) ?_
  rintro _ _ ⟨rfl, ⟨rfl, h2⟩ | ⟨rfl, h2⟩⟩
  · show Ev _ _ _ _ _ 5 [some (.ref 359), some (.int (nI k)), some (.int (nI p))] [.int (nI 1)] (zz_SH, I, J) _
    refine Ev.if_eq (off := 20) (tgt := 25) (by decide +kernel) (by decide) (fun h5 => absurd h5 (by decide)) (fun h5 => ?_)
    refine Ev.run [(.aload_n 0, 1), (.iload_n 2, 1)] (pc' := 10) (L' := [some (.ref 359), some (.int (nI k)), some (.int (nI p))]) (S' := [.int (nI p), .ref 359]) rfl (by decide +kernel) rfl ?_
    refine Ev.callV0 mX7_isPair [.int (nI p)] [] _ rfl lk_RX7_100 (by decide +kernel) (rfl) rfl rfl rfl (Nat.le_of_ble_eq_true rfl) (c_X7_isPair I J (aN A) (nI p) hV.1.1 (by omega)) ?_
    rintro _ _ ⟨rfl, ⟨rfl, h10⟩ | ⟨rfl, h10⟩⟩
    · show Ev _ _ _ _ _ 13 [some (.ref 359), some (.int (nI k)), some (.int (nI p))] [.int (nI 1)] (zz_SH, I, J) _
      refine Ev.if_eq (off := 12) (tgt := 25) (by decide +kernel) (by decide) (fun h13 => absurd h13 (by decide)) (fun h13 => ?_)
      refine Ev.run [(.aload_n 0, 1), (.iload_n 1, 1), (.iload_n 2, 1)] (pc' := 19) (L' := [some (.ref 359), some (.int (nI k)), some (.int (nI p))]) (S' := [.int (nI p), .int (nI k), .ref 359]) rfl (by decide +kernel) rfl ?_
      refine Ev.callV0 mX7_matchOf [.int (nI k), .int (nI p)] [] _ rfl lk_RX7_124 (by decide +kernel) (rfl) rfl rfl rfl (Nat.le_of_ble_eq_true rfl) (c_X7_matchOf I J A hV hW k p hk hp) ?_
      rintro _ _ ⟨rfl, I1, hs_I1, rfl⟩
      show Ev _ _ _ _ _ 22 [some (.ref 359), some (.int (nI k)), some (.int (nI p))] [.int (nI (mtc A k p))] (zz_SH, I1, J) _
      refine Ev.goto (off := 4) (tgt := 26) (by decide +kernel) (by decide) ?_
      exact Ev.iret rfl (by decide +kernel) (⟨rfl, I1, hs_I1, rfl⟩)
    · exact absurd ⟨p, hp, rfl⟩ h10
  · exact absurd ⟨k, hk, rfl⟩ h2

set_option maxRecDepth 100000 in
set_option maxHeartbeats 4000000 in
theorem c_X7_match_out {sc : Nat × (Nat → Int32)} {d : Nat} (I : Nat → Nat → Int32) (J : Nat → Nat → Int64) (A : zA) (hV : MV (zVm I) A) (hW : WF A) (x y : Int32) (hxy : ¬ (zz_ix x (aM A) ∧ zz_ix y (aN A))) : EvM sc (d + 6) 0 0 mX7_match [.ref 359, .int x, .int y] (zz_SH, I, J) (zz_is (.int (-1)) (zz_SH, I, J)) := by
  have w1 := hW.1.1
  have w2 := hW.1.2.1
  refine EvM.of (by decide) rfl (Nat.le_of_ble_eq_true rfl) ?_
  show Ev _ _ _ _ _ 0 [some (.ref 359), some (.int x), some (.int y)] [] (zz_SH, I, J) _
  refine Ev.run [(.aload_n 0, 1), (.iload_n 1, 1)] (pc' := 2) (L' := [some (.ref 359), some (.int x), some (.int y)]) (S' := [.int x, .ref 359]) rfl (by decide +kernel) rfl ?_
  refine Ev.callV0 mX7_isSentence [.int x] [] _ rfl lk_RX7_107 (by decide +kernel) (rfl) rfl rfl rfl (Nat.le_of_ble_eq_true rfl) (c_X7_isSentence I J (aM A) x hV.1.2.1 (by omega)) ?_
  rintro _ _ ⟨rfl, ⟨rfl, h2⟩ | ⟨rfl, h2⟩⟩
  · show Ev _ _ _ _ _ 5 [some (.ref 359), some (.int x), some (.int y)] [.int (nI 1)] (zz_SH, I, J) _
    refine Ev.if_eq (off := 20) (tgt := 25) (by decide +kernel) (by decide) (fun h5 => absurd h5 (by decide)) (fun h5 => ?_)
    refine Ev.run [(.aload_n 0, 1), (.iload_n 2, 1)] (pc' := 10) (L' := [some (.ref 359), some (.int x), some (.int y)]) (S' := [.int y, .ref 359]) rfl (by decide +kernel) rfl ?_
    refine Ev.callV0 mX7_isPair [.int y] [] _ rfl lk_RX7_100 (by decide +kernel) (rfl) rfl rfl rfl (Nat.le_of_ble_eq_true rfl) (c_X7_isPair I J (aN A) y hV.1.1 (by omega)) ?_
    rintro _ _ ⟨rfl, ⟨rfl, h10⟩ | ⟨rfl, h10⟩⟩
    · exact absurd ⟨h2, h10⟩ hxy
    · show Ev _ _ _ _ _ 13 [some (.ref 359), some (.int x), some (.int y)] [.int (nI 0)] (zz_SH, I, J) _
      refine Ev.if_eq (off := 12) (tgt := 25) (by decide +kernel) (by decide) (fun h13 => ?_) (fun h13 => absurd h13 (by decide))
      refine Ev.run [(.iconst (-1), 1)] (pc' := 26) (L' := [some (.ref 359), some (.int x), some (.int y)]) (S' := [.int ((-1))]) rfl (by decide +kernel) rfl ?_
      exact Ev.iret rfl (by decide +kernel) (⟨rfl, rfl⟩)
  · show Ev _ _ _ _ _ 5 [some (.ref 359), some (.int x), some (.int y)] [.int (nI 0)] (zz_SH, I, J) _
    refine Ev.if_eq (off := 20) (tgt := 25) (by decide +kernel) (by decide) (fun h5 => ?_) (fun h5 => absurd h5 (by decide))
    refine Ev.run [(.iconst (-1), 1)] (pc' := 26) (L' := [some (.ref 359), some (.int x), some (.int y)]) (S' := [.int ((-1))]) rfl (by decide +kernel) rfl ?_
    exact Ev.iret rfl (by decide +kernel) (⟨rfl, rfl⟩)

/-! found -/
def fo (x : Option (Nat × Nat)) : Int32 := match x with
  | none => -6
  | some (p, _) => nI p
def fv (x : Option (Nat × Nat)) : Int32 := match x with
  | none => -6
  | some (_, v) => nI v
theorem fnd_ok (A : zA) (k : Nat) : ∀ n p v, fnd A k n = some (p, v) → p < n ∧ v = mtc A k p
  | 0, p, v, h => by cases h
  | n + 1, p, v, h => by
    rw [fnd] at h
    split at h
    · cases h; exact ⟨Nat.lt_succ_self _, rfl⟩
    · next p' v' h9 =>
      obtain ⟨h1, h2⟩ := fnd_ok A k n p' v' h9
      split at h
      · cases h; exact ⟨Nat.lt_succ_self _, rfl⟩
      · cases h; exact ⟨by omega, h2⟩
theorem fnd_ge {A : zA} {k p : Nat} (h : ¬ nI (mtc A k p) < fv (fnd A k p)) : fnd A k (p + 1) = some (p, mtc A k p) := by
  rw [fnd]
  cases hx : fnd A k p with
  | none => rfl
  | some y =>
    obtain ⟨p', v'⟩ := y
    obtain ⟨-, h2⟩ := fnd_ok A k p p' v' hx
    have b1 := mtc_le A k p
    have b2 := mtc_le A k p'
    rw [hx] at h
    have h3 := zz_bL_f (by omega) (by rw [h2]; omega) h
    exact if_pos h3
theorem fnd_lt {A : zA} {k p : Nat} (h : nI (mtc A k p) < fv (fnd A k p)) : fnd A k (p + 1) = fnd A k p := by
  rw [fnd]
  cases hx : fnd A k p with
  | none =>
    rw [hx] at h
    have b1 := mtc_le A k p
    exfalso
    have h1 : nI (mtc A k p) < (-6 : Int32) := h
    rw [Int32.lt_iff_toInt_lt, nI_toInt (by omega)] at h1
    have h2 : (-6 : Int32).toInt = -6 := by decide
    omega
  | some y =>
    obtain ⟨p', v'⟩ := y
    obtain ⟨-, h2⟩ := fnd_ok A k p p' v' hx
    have b1 := mtc_le A k p
    have b2 := mtc_le A k p'
    rw [hx] at h
    have h3 := zz_bL_t (by omega) (by rw [h2]; omega) h
    exact if_neg (by omega)
/-- what foundOf may change -/
def zS2 (I I' : Nat → Nat → Int32) : Prop := (∀ c, c ≠ 372 → c ≠ 359 → I' c = I c) ∧ ∀ j, j ≠ 17 → I' 359 j = I 359 j
theorem zS2.rf (I : Nat → Nat → Int32) : zS2 I I := ⟨fun _ _ _ => rfl, fun _ _ => rfl⟩
theorem zS2.tr {I I' I'' : Nat → Nat → Int32} (h : zS2 I I') (h' : zS2 I' I'') : zS2 I I'' := ⟨fun c h1 h2 => (h'.1 c h1 h2).trans (h.1 c h1 h2), fun j hj => (h'.2 j hj).trans (h.2 j hj)⟩
theorem zS1.s2 {I I' : Nat → Nat → Int32} (h : zS1 I I') : zS2 I I' := ⟨fun c h1 _ => h c h1, fun j _ => by rw [h 359 (by decide)]⟩
theorem zS2.fl (I : Nat → Nat → Int32) (v : Int32) : zS2 I (zz_up I 359 17 v) := ⟨fun c _ h2 => zz_up_ne h2, fun j hj => by rw [zz_up_eq, zz_upn hj]⟩
theorem zS2.sc {I I' : Nat → Nat → Int32} (h : zS2 I I') : zSc I I' := ⟨fun c hc => h.1 c (by omega) (by omega), h.1 360 (by decide) (by decide), fun c h1 h2 => h.1 c (by omega) (by omega), h.1 379 (by decide) (by decide), h.1 380 (by decide) (by decide), h.2 0 (by decide), h.2 2 (by decide), h.2 8 (by decide)⟩
theorem zS2.mv {I I' : Nat → Nat → Int32} {A : zA} (h : zS2 I I') (hV : MV (zVm I) A) : MV (zVm I') A := h.sc.mv hV

set_option maxRecDepth 100000 in
set_option maxHeartbeats 4000000 in
theorem l_X7_foundOf {sc : Nat × (Nat → Int32)} {d : Nat} (I : Nat → Nat → Int32) (J : Nat → Nat → Int64) (A : zA) (hV : MV (zVm I) A) (hW : WF A) (k : Nat) (hk : k < aM A) : ∀ (μ : Nat) (p : Nat) (I1 : Nat → Nat → Int32), aN A - p < μ → (p ≤ aN A) → (zS2 I I1) → (I1 359 17 = fv (fnd A k p)) →  Ev sc (d + 6) 0 0 mX7_foundOf 11 [some (.ref 359), some (.int (nI k)), some (.int (fo (fnd A k p))), some (.int (nI p)), none] [] (zz_SH, I1, J) (fun r σ => r = some (.int (fo (fnd A k (aN A)))) ∧ ∃ I' : Nat → Nat → Int32, zS2 I I' ∧ I' 359 17 = fv (fnd A k (aN A)) ∧ σ = (zz_SH, I', J)) := by
  intro μ
  induction μ with
  | zero => intro p I1 hμ; exact absurd hμ (Nat.not_lt_zero _)
  | succ μ ih =>
    intro p I1 hμ hpN hs hf
    have w1 := hW.1.1
    have w2 := hW.1.2.1
    have hV1 := hs.mv hV
    refine Ev.run [(.iload_n 3, 1), (.aload_n 0, 1), (.getfield 75, 3)] (pc' := 16) (L' := [some (.ref 359), some (.int (nI k)), some (.int (fo (fnd A k p))), some (.int (nI p)), none]) (S' := [.int (I1 359 2), .int (nI p)]) rfl (by decide +kernel) rfl ?_
    rw [show I1 359 2 = nI (aN A) from hV1.1.1]
    refine Ev.icmp_ge (off := 34) (tgt := 50) (by decide +kernel) (by decide) (fun h16 => ?_) (fun h16 => ?_)
    · have h16 : p ≥ (aN A) := zz_bG_t (by omega) (by omega) h16
      have hpN : aN A = p := by omega
      rw [hpN]
      refine Ev.run [(.iload_n 2, 1)] (pc' := 51) (L' := [some (.ref 359), some (.int (nI k)), some (.int (fo (fnd A k p))), some (.int (nI p)), none]) (S' := [.int (fo (fnd A k p))]) rfl (by decide +kernel) rfl ?_
      exact Ev.iret rfl (by decide +kernel) (⟨rfl, I1, hs, hf, rfl⟩)
    · have h16 : p < (aN A) := zz_bG_f (by omega) (by omega) h16
      refine Ev.run [(.aload_n 0, 1), (.iload_n 1, 1), (.iload_n 3, 1)] (pc' := 22) (L' := [some (.ref 359), some (.int (nI k)), some (.int (fo (fnd A k p))), some (.int (nI p)), none]) (S' := [.int (nI p), .int (nI k), .ref 359]) rfl (by decide +kernel) rfl ?_
      refine Ev.callV0 mX7_matchOf [.int (nI k), .int (nI p)] [] _ rfl lk_RX7_124 (by decide +kernel) (rfl) rfl rfl rfl (Nat.le_of_ble_eq_true rfl) (c_X7_matchOf I1 J A hV1 hW k p hk (by omega)) ?_
      rintro _ _ ⟨rfl, I2, hs_I2, rfl⟩
      show Ev _ _ _ _ _ 25 [some (.ref 359), some (.int (nI k)), some (.int (fo (fnd A k p))), some (.int (nI p)), none] [.int (nI (mtc A k p))] (zz_SH, I2, J) _
      refine Ev.run [(.istore 4, 2), (.iload 4, 2), (.aload_n 0, 1), (.getfield 127, 3)] (pc' := 33) (L' := [some (.ref 359), some (.int (nI k)), some (.int (fo (fnd A k p))), some (.int (nI p)), some (.int (nI (mtc A k p)))]) (S' := [.int (I2 359 17), .int (nI (mtc A k p))]) rfl (by decide +kernel) rfl ?_
      rw [show I2 359 17 = fv (fnd A k p) from by rw [hs_I2 359 (by decide)]; exact hf]
      refine Ev.icmp_lt (off := 11) (tgt := 44) (by decide +kernel) (by decide) (fun h33 => ?_) (fun h33 => ?_)
      · refine Ev.run [(.iinc 3 1, 3)] (pc' := 47) (L' := [some (.ref 359), some (.int (nI k)), some (.int (fo (fnd A k p))), some (.int (nI p + 1)), some (.int (nI (mtc A k p)))]) (S' := []) rfl (by decide +kernel) rfl ?_
        rw [nI_1 p]
        refine Ev.goto (off := (-36)) (tgt := 11) (by decide +kernel) (by decide) ?_
        refine Ev.weakL (L' := [some (.ref 359), some (.int (nI k)), some (.int (fo (fnd A k p))), some (.int (nI (p + 1))), none]) ⟨rfl, rfl, rfl, rfl, trivial⟩ ?_
        have e9 := fnd_lt h33
        rw [← e9]
        exact ih (p + 1) _ (by omega) (by omega) (hs.tr hs_I2.s2) (by rw [hs_I2 359 (by decide), hf, e9])
      · refine Ev.run [(.iload_n 3, 1), (.istore_n 2, 1), (.aload_n 0, 1), (.iload 4, 2)] (pc' := 41) (L' := [some (.ref 359), some (.int (nI k)), some (.int (nI p)), some (.int (nI p)), some (.int (nI (mtc A k p)))]) (S' := [.int (nI (mtc A k p)), .ref 359]) rfl (by decide +kernel) rfl ?_
        refine Ev.putf (idx := 127) rfl rfl rfl (by decide +kernel) (rfl) rfl ?_
        dsimp only
        refine Ev.run [(.iinc 3 1, 3)] (pc' := 47) (L' := [some (.ref 359), some (.int (nI k)), some (.int (nI p)), some (.int (nI p + 1)), some (.int (nI (mtc A k p)))]) (S' := []) rfl (by decide +kernel) rfl ?_
        rw [nI_1 p]
        refine Ev.goto (off := (-36)) (tgt := 11) (by decide +kernel) (by decide) ?_
        refine Ev.weakL (L' := [some (.ref 359), some (.int (nI k)), some (.int (nI p)), some (.int (nI (p + 1))), none]) ⟨rfl, rfl, rfl, rfl, trivial⟩ ?_
        have e9 := fnd_ge h33
        rw [show nI p = fo (fnd A k (p + 1)) from by rw [e9]; rfl]
        exact ih (p + 1) _ (by omega) (by omega) (hs.tr (hs_I2.s2.tr (zS2.fl I2 _))) (by rw [zz_up_eq, zz_ups, e9]; rfl)

set_option maxRecDepth 100000 in
set_option maxHeartbeats 4000000 in
theorem c_X7_foundOf {sc : Nat × (Nat → Int32)} {d : Nat} (I : Nat → Nat → Int32) (J : Nat → Nat → Int64) (A : zA) (hV : MV (zVm I) A) (hW : WF A) (k : Nat) (hk : k < aM A) : EvM sc (d + 6) 0 0 mX7_foundOf [.ref 359, .int (nI k)] (zz_SH, I, J) (fun r σ => r = some (.int (fo (fnd A k (aN A)))) ∧ ∃ I' : Nat → Nat → Int32, zS2 I I' ∧ I' 359 17 = fv (fnd A k (aN A)) ∧ σ = (zz_SH, I', J)) := by
  have w1 := hW.1.1
  have w2 := hW.1.2.1
  refine EvM.of (by decide) rfl (Nat.le_of_ble_eq_true rfl) ?_
  show Ev _ _ _ _ _ 0 [some (.ref 359), some (.int (nI k)), none, none, none] [] (zz_SH, I, J) _
  refine Ev.run [(.bipush (-6), 2), (.istore_n 2, 1), (.aload_n 0, 1), (.bipush (-6), 2)] (pc' := 6) (L' := [some (.ref 359), some (.int (nI k)), some (.int ((-6))), none, none]) (S' := [.int ((-6)), .ref 359]) rfl (by decide +kernel) rfl ?_
  refine Ev.putf (idx := 127) rfl rfl rfl (by decide +kernel) (rfl) rfl ?_
  dsimp only
  refine Ev.run [(.iconst 0, 1), (.istore_n 3, 1)] (pc' := 11) (L' := [some (.ref 359), some (.int (nI k)), some (.int ((-6))), some (.int (nI 0)), none]) (S' := []) rfl (by decide +kernel) rfl ?_
  exact l_X7_foundOf I J A hV hW k hk (aN A + 1) 0 _ (by omega) (by omega) (zS2.fl I _) (by rw [zz_up_eq, zz_ups]; rfl)
