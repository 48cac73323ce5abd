/-! ===== the class: matches ===== -/
theorem zz_m6 (N : Nat) (hN : N < 1000) : ¬ zz_ix (-6) N := by
  rintro ⟨j, hj, h⟩
  have h1 := congrArg Int32.toInt h
  rw [nI_toInt (by omega)] at h1
  have h2 : (-6 : Int32).toInt = -6 := by decide
  omega
theorem zz_m1 (N : Nat) (hN : N < 1000) : ¬ zz_ix (-1) N := by
  rintro ⟨j, hj, h⟩
  have h1 := congrArg Int32.toInt h
  rw [nI_toInt (by omega)] at h1
  have h2 : (-1 : Int32).toInt = -1 := by decide
  omega
theorem zz_same {I : Nat → Nat → Int32} {k q s t : Nat} {f g : Nat → Nat} (hf : zz_rf I k s f) (hg : zz_rf I q t g) (hfr : ∀ i, i < s → f i < 1000) (hgr : ∀ j, j < t → g j < 1000) : (s = t ∧ ∀ j, j < s → I (k + 1) j = I (q + 1) j) ↔ (s = t ∧ ∀ j, j < s → f j = g j) := by
  constructor
  · rintro ⟨e, h⟩
    refine ⟨e, fun j hj => ?_⟩
    have h1 := h j hj
    rw [hf.2 j hj, hg.2 j (by omega)] at h1
    have b1 := hfr j hj
    have b2 := hgr j (by omega)
    exact (nI_eq (by omega) (by omega)).mp h1
  · rintro ⟨e, h⟩
    exact ⟨e, fun j hj => by rw [hf.2 j hj, hg.2 j (by omega), h j hj]⟩
theorem WF.tt {A : zA} (hW : WF A) {s : Nat} (hs : s < aM A) : ∀ i, i < tz A s → tt A s i < 1000 := fun i hi => by have := ((hW.2.2.1 s hs).2 i hi).2; omega
theorem WF.ff {A : zA} (hW : WF A) {p : Nat} (hp : p < aN A) : ∀ i, i < fz A p → ff A p i < 1000 := fun i hi => by have := ((hW.2.1 p hp).2.1 i hi).2; omega
theorem WF.gg {A : zA} (hW : WF A) {p : Nat} (hp : p < aN A) : ∀ i, i < gz A p → gg A p i < 1000 := fun i hi => by have := ((hW.2.1 p hp).2.2.1 i hi).2; omega
theorem zz_sab {I : Nat → Nat → Int32} {A : zA} (hM : CM 3 I A) (hW : WF A) {k q : Nat} (hk : k < aM A) (hq : q < aN A) : (tz A k = fz A q ∧ ∀ j, j < tz A k → I (84 + 2 * k + 1) j = I (36 + 4 * q + 1) j) ↔ lkP A k q = 100 := by
  rw [lkP, lik_100 _ _ (hW.2.2.1 k hk).1.1 (hW.2.2.1 k hk).1.2 (hW.2.1 q hq).1.2.1]
  exact zz_same (hM.2.2.1 k hk) (hM.2.1 q hq).2.1 (hW.tt hk) (hW.ff hq)

set_option maxRecDepth 100000 in
set_option maxHeartbeats 4000000 in
theorem c_X2_sab_n {sc : Nat × (Nat → Int32)} {d : Nat} (I : Nat → Nat → Int32) (J : Nat → Nat → Int64) (A : zA) (hM : CM 3 I A) (hW : WF A) (k p : Nat) (hk : k < aM A) (hp : p < aN A) (hb : aB A p = none) : EvM sc (d + 2) 0 0 mX2_standsAsBefore [.ref 3, .int (nI k), .int (nI p)] (zz_SH, I, J) (zz_is (.int (nI 0)) (zz_SH, I, J)) := by
  have w1 := hW.1.1
  have w2 := hW.1.2.1
  refine EvM.of (by decide) rfl (Nat.le_of_ble_eq_true rfl) ?_
  show Ev _ _ _ _ _ 0 [some (.ref 3), some (.int (nI k)), some (.int (nI p)), none] [] (zz_SH, I, J) _
  refine Ev.run [(.iload_n 1, 1), (.iconst 1, 1), (.isub, 1), (.istore_n 3, 1), (.aload_n 0, 1), (.iload_n 3, 1)] (pc' := 6) (L' := [some (.ref 3), some (.int (nI k)), some (.int (nI p)), some (.int (nI k - nI 1))]) (S' := [.int (nI k - nI 1), .ref 3]) rfl (by decide +kernel) rfl ?_
  refine Ev.callV0 mX2_isSentence [.int (nI k - nI 1)] [] _ rfl lk_RX2_58 (by decide +kernel) (rfl) rfl rfl rfl (Nat.le_of_ble_eq_true rfl) (c_X2_isSentence I J (aM A) (nI k - nI 1) hM.1.2 hW.1.2.1) ?_
  rintro _ _ ⟨rfl, ⟨rfl, h6⟩ | ⟨rfl, h6⟩⟩
  · show Ev _ _ _ _ _ 9 [some (.ref 3), some (.int (nI k)), some (.int (nI p)), some (.int (nI k - nI 1))] [.int (nI 1)] (zz_SH, I, J) _
    refine Ev.if_eq (off := 51) (tgt := 60) (by decide +kernel) (by decide) (fun h9 => absurd h9 (by decide)) (fun h9 => ?_)
    refine Ev.run [(.aload_n 0, 1), (.iload_n 2, 1)] (pc' := 14) (L' := [some (.ref 3), some (.int (nI k)), some (.int (nI p)), some (.int (nI k - nI 1))]) (S' := [.int (nI p), .ref 3]) rfl (by decide +kernel) rfl ?_
    refine Ev.callV0 mX2_isPair [.int (nI p)] [] _ rfl lk_RX2_62 (by decide +kernel) (rfl) rfl rfl rfl (Nat.le_of_ble_eq_true rfl) (c_X2_isPair I J (aN A) (nI p) hM.1.1 hW.1.1) ?_
    rintro _ _ ⟨rfl, ⟨rfl, h14⟩ | ⟨rfl, h14⟩⟩
    · show Ev _ _ _ _ _ 17 [some (.ref 3), some (.int (nI k)), some (.int (nI p)), some (.int (nI k - nI 1))] [.int (nI 1)] (zz_SH, I, J) _
      refine Ev.if_eq (off := 43) (tgt := 60) (by decide +kernel) (by decide) (fun h17 => absurd h17 (by decide)) (fun h17 => ?_)
      refine Ev.run [(.aload_n 0, 1), (.aload_n 0, 1), (.getfield 20, 3), (.iload_n 2, 1)] (pc' := 26) (L' := [some (.ref 3), some (.int (nI k)), some (.int (nI p)), some (.int (nI k - nI 1))]) (S' := [.int (nI p), .ref 6, .ref 3]) rfl (by decide +kernel) rfl ?_
      refine Ev.iald p (by decide +kernel) (rfl) (rfl) (by omega) (by first | decide | omega) ?_
      dsimp only
      rw [show I 6 p = (-6) from by rw [show I 6 p = ob (aB A p) from (hM.2.1 p hp).1, hb]; rfl]
      refine Ev.callV0 mX2_isPair [.int ((-6))] [] _ rfl lk_RX2_62 (by decide +kernel) (rfl) rfl rfl rfl (Nat.le_of_ble_eq_true rfl) (c_X2_isPair I J (aN A) ((-6)) hM.1.1 hW.1.1) ?_
      rintro _ _ ⟨rfl, ⟨rfl, h27⟩ | ⟨rfl, h27⟩⟩
      · exact absurd h27 (zz_m6 _ (by omega))
      · show Ev _ _ _ _ _ 30 [some (.ref 3), some (.int (nI k)), some (.int (nI p)), some (.int (nI k - nI 1))] [.int (nI 0)] (zz_SH, I, J) _
        refine Ev.if_eq (off := 30) (tgt := 60) (by decide +kernel) (by decide) (fun h30 => ?_) (fun h30 => absurd h30 (by decide))
        refine Ev.run [(.iconst 0, 1)] (pc' := 61) (L' := [some (.ref 3), some (.int (nI k)), some (.int (nI p)), some (.int (nI k - nI 1))]) (S' := [.int (nI 0)]) rfl (by decide +kernel) rfl ?_
        exact Ev.zret rfl (by decide +kernel) (Or.inl rfl) (⟨rfl, rfl⟩)
    · exact absurd ⟨p, hp, rfl⟩ h14
  · show Ev _ _ _ _ _ 9 [some (.ref 3), some (.int (nI k)), some (.int (nI p)), some (.int (nI k - nI 1))] [.int (nI 0)] (zz_SH, I, J) _
    refine Ev.if_eq (off := 51) (tgt := 60) (by decide +kernel) (by decide) (fun h9 => ?_) (fun h9 => absurd h9 (by decide))
    refine Ev.run [(.iconst 0, 1)] (pc' := 61) (L' := [some (.ref 3), some (.int (nI k)), some (.int (nI p)), some (.int (nI k - nI 1))]) (S' := [.int (nI 0)]) rfl (by decide +kernel) rfl ?_
    exact Ev.zret rfl (by decide +kernel) (Or.inl rfl) (⟨rfl, rfl⟩)

set_option maxRecDepth 100000 in
set_option maxHeartbeats 4000000 in
theorem c_X2_sab_0 {sc : Nat × (Nat → Int32)} {d : Nat} (I : Nat → Nat → Int32) (J : Nat → Nat → Int64) (A : zA) (hM : CM 3 I A) (hW : WF A) (p : Nat) : EvM sc (d + 2) 0 0 mX2_standsAsBefore [.ref 3, .int (nI 0), .int (nI p)] (zz_SH, I, J) (zz_is (.int (nI 0)) (zz_SH, I, J)) := by
  have w1 := hW.1.1
  have w2 := hW.1.2.1
  refine EvM.of (by decide) rfl (Nat.le_of_ble_eq_true rfl) ?_
  show Ev _ _ _ _ _ 0 [some (.ref 3), some (.int (nI 0)), some (.int (nI p)), none] [] (zz_SH, I, J) _
  refine Ev.run [(.iload_n 1, 1), (.iconst 1, 1), (.isub, 1)] (pc' := 3) (L' := [some (.ref 3), some (.int (nI 0)), some (.int (nI p)), none]) (S' := [.int (nI 0 - nI 1)]) rfl (by decide +kernel) rfl ?_
  rw [show nI 0 - nI 1 = (-1) from (by decide)]
  refine Ev.run [(.istore_n 3, 1), (.aload_n 0, 1), (.iload_n 3, 1)] (pc' := 6) (L' := [some (.ref 3), some (.int (nI 0)), some (.int (nI p)), some (.int ((-1)))]) (S' := [.int ((-1)), .ref 3]) rfl (by decide +kernel) rfl ?_
  refine Ev.callV0 mX2_isSentence [.int ((-1))] [] _ rfl lk_RX2_58 (by decide +kernel) (rfl) rfl rfl rfl (Nat.le_of_ble_eq_true rfl) (c_X2_isSentence I J (aM A) ((-1)) hM.1.2 hW.1.2.1) ?_
  rintro _ _ ⟨rfl, ⟨rfl, h6⟩ | ⟨rfl, h6⟩⟩
  · exact absurd h6 (zz_m1 _ (by omega))
  · show Ev _ _ _ _ _ 9 [some (.ref 3), some (.int (nI 0)), some (.int (nI p)), some (.int ((-1)))] [.int (nI 0)] (zz_SH, I, J) _
    refine Ev.if_eq (off := 51) (tgt := 60) (by decide +kernel) (by decide) (fun h9 => ?_) (fun h9 => absurd h9 (by decide))
    refine Ev.run [(.iconst 0, 1)] (pc' := 61) (L' := [some (.ref 3), some (.int (nI 0)), some (.int (nI p)), some (.int ((-1)))]) (S' := [.int (nI 0)]) rfl (by decide +kernel) rfl ?_
    exact Ev.zret rfl (by decide +kernel) (Or.inl rfl) (⟨rfl, rfl⟩)

set_option maxRecDepth 100000 in
set_option maxHeartbeats 4000000 in
theorem c_X2_sab_s {sc : Nat × (Nat → Int32)} {d : Nat} (I : Nat → Nat → Int32) (J : Nat → Nat → Int64) (A : zA) (hM : CM 3 I A) (hW : WF A) (k p : Nat) (hk : k + 1 < aM A) (hp : p < aN A) (q : Nat) (hb : aB A p = some q) : EvM sc (d + 2) 0 0 mX2_standsAsBefore [.ref 3, .int (nI (k + 1)), .int (nI p)] (zz_SH, I, J) (zz_tf (lkP A k q = 100) (zz_SH, I, J)) := by
  have w1 := hW.1.1
  have w2 := hW.1.2.1
  have hqp := (hW.2.1 p hp).2.2.2 q hb
  refine EvM.of (by decide) rfl (Nat.le_of_ble_eq_true rfl) ?_
  show Ev _ _ _ _ _ 0 [some (.ref 3), some (.int (nI (k + 1))), some (.int (nI p)), none] [] (zz_SH, I, J) _
  refine Ev.run [(.iload_n 1, 1), (.iconst 1, 1), (.isub, 1)] (pc' := 3) (L' := [some (.ref 3), some (.int (nI (k + 1))), some (.int (nI p)), none]) (S' := [.int (nI (k + 1) - nI 1)]) rfl (by decide +kernel) rfl ?_
  rw [show nI (k + 1) - nI 1 = nI k from zz_sub (by omega)]
  refine Ev.run [(.istore_n 3, 1), (.aload_n 0, 1), (.iload_n 3, 1)] (pc' := 6) (L' := [some (.ref 3), some (.int (nI (k + 1))), some (.int (nI p)), some (.int (nI k))]) (S' := [.int (nI k), .ref 3]) rfl (by decide +kernel) rfl ?_
  refine Ev.callV0 mX2_isSentence [.int (nI k)] [] _ rfl lk_RX2_58 (by decide +kernel) (rfl) rfl rfl rfl (Nat.le_of_ble_eq_true rfl) (c_X2_isSentence I J (aM A) (nI k) hM.1.2 hW.1.2.1) ?_
  rintro _ _ ⟨rfl, ⟨rfl, h6⟩ | ⟨rfl, h6⟩⟩
  · show Ev _ _ _ _ _ 9 [some (.ref 3), some (.int (nI (k + 1))), some (.int (nI p)), some (.int (nI k))] [.int (nI 1)] (zz_SH, I, J) _
    refine Ev.if_eq (off := 51) (tgt := 60) (by decide +kernel) (by decide) (fun h9 => absurd h9 (by decide)) (fun h9 => ?_)
    refine Ev.run [(.aload_n 0, 1), (.iload_n 2, 1)] (pc' := 14) (L' := [some (.ref 3), some (.int (nI (k + 1))), some (.int (nI p)), some (.int (nI k))]) (S' := [.int (nI p), .ref 3]) rfl (by decide +kernel) rfl ?_
    refine Ev.callV0 mX2_isPair [.int (nI p)] [] _ rfl lk_RX2_62 (by decide +kernel) (rfl) rfl rfl rfl (Nat.le_of_ble_eq_true rfl) (c_X2_isPair I J (aN A) (nI p) hM.1.1 hW.1.1) ?_
    rintro _ _ ⟨rfl, ⟨rfl, h14⟩ | ⟨rfl, h14⟩⟩
    · show Ev _ _ _ _ _ 17 [some (.ref 3), some (.int (nI (k + 1))), some (.int (nI p)), some (.int (nI k))] [.int (nI 1)] (zz_SH, I, J) _
      refine Ev.if_eq (off := 43) (tgt := 60) (by decide +kernel) (by decide) (fun h17 => absurd h17 (by decide)) (fun h17 => ?_)
      refine Ev.run [(.aload_n 0, 1), (.aload_n 0, 1), (.getfield 20, 3), (.iload_n 2, 1)] (pc' := 26) (L' := [some (.ref 3), some (.int (nI (k + 1))), some (.int (nI p)), some (.int (nI k))]) (S' := [.int (nI p), .ref 6, .ref 3]) rfl (by decide +kernel) rfl ?_
      refine Ev.iald p (by decide +kernel) (rfl) (rfl) (by omega) (by first | decide | omega) ?_
      dsimp only
      rw [show I 6 p = nI q from by rw [show I 6 p = ob (aB A p) from (hM.2.1 p hp).1, hb]; rfl]
      refine Ev.callV0 mX2_isPair [.int (nI q)] [] _ rfl lk_RX2_62 (by decide +kernel) (rfl) rfl rfl rfl (Nat.le_of_ble_eq_true rfl) (c_X2_isPair I J (aN A) (nI q) hM.1.1 hW.1.1) ?_
      rintro _ _ ⟨rfl, ⟨rfl, h27⟩ | ⟨rfl, h27⟩⟩
      · show Ev _ _ _ _ _ 30 [some (.ref 3), some (.int (nI (k + 1))), some (.int (nI p)), some (.int (nI k))] [.int (nI 1)] (zz_SH, I, J) _
        refine Ev.if_eq (off := 30) (tgt := 60) (by decide +kernel) (by decide) (fun h30 => absurd h30 (by decide)) (fun h30 => ?_)
        refine Ev.run [(.aload_n 0, 1), (.getfield 24, 3), (.iload_n 3, 1)] (pc' := 38) (L' := [some (.ref 3), some (.int (nI (k + 1))), some (.int (nI p)), some (.int (nI k))]) (S' := [.int (nI k), .ref 7]) rfl (by decide +kernel) rfl ?_
        refine Ev.aald k (by decide +kernel) (rfl) (by decide) (rfl) (by omega) (by first | decide | omega) (zz_a84 k (by omega)) ?_
        refine Ev.run [(.aload_n 0, 1), (.getfield 11, 3), (.aload_n 0, 1), (.getfield 20, 3), (.iload_n 2, 1)] (pc' := 48) (L' := [some (.ref 3), some (.int (nI (k + 1))), some (.int (nI p)), some (.int (nI k))]) (S' := [.int (nI p), .ref 6, .ref 4, .ref (84 + 2 * k)]) rfl (by decide +kernel) rfl ?_
        refine Ev.iald p (by decide +kernel) (rfl) (rfl) (by omega) (by first | decide | omega) ?_
        dsimp only
        rw [show I 6 p = nI q from by rw [show I 6 p = ob (aB A p) from (hM.2.1 p hp).1, hb]; rfl]
        refine Ev.aald q (by decide +kernel) (rfl) (by decide) (rfl) (by omega) (by first | decide | omega) (zz_a36 q (by omega)) ?_
        refine Ev.callV0 mX4_sameAs [.ref (36 + 4 * q)] [] _ rfl lk_RX2_65 (by decide +kernel) ((zz_r84 k (by omega)).1) rfl rfl rfl (Nat.le_of_ble_eq_true rfl) (c_X4_sameAs I J (84 + 2 * k) 12 (tz A k) (36 + 4 * q) 12 (fz A q) (zz_r84 k (by omega)) (hM.2.2.1 k (by omega)).1 (hW.2.2.1 k (by omega)).1.2 (zz_r36 q (by omega)) (hM.2.1 q (by omega)).2.1.1 (hW.2.1 q (by omega)).1.2.1) ?_
        rintro _ _ ⟨rfl, ⟨rfl, h50⟩ | ⟨rfl, h50⟩⟩
        · show Ev _ _ _ _ _ 53 [some (.ref 3), some (.int (nI (k + 1))), some (.int (nI p)), some (.int (nI k))] [.int (nI 1)] (zz_SH, I, J) _
          have h50 := (zz_sab hM hW (by omega) (by omega)).mp h50
          refine Ev.if_eq (off := 7) (tgt := 60) (by decide +kernel) (by decide) (fun h53 => absurd h53 (by decide)) (fun h53 => ?_)
          refine Ev.run [(.iconst 1, 1)] (pc' := 57) (L' := [some (.ref 3), some (.int (nI (k + 1))), some (.int (nI p)), some (.int (nI k))]) (S' := [.int (nI 1)]) rfl (by decide +kernel) rfl ?_
          refine Ev.goto (off := 4) (tgt := 61) (by decide +kernel) (by decide) ?_
          exact Ev.zret rfl (by decide +kernel) (Or.inr rfl) (⟨rfl, Or.inl ⟨rfl, h50⟩⟩)
        · show Ev _ _ _ _ _ 53 [some (.ref 3), some (.int (nI (k + 1))), some (.int (nI p)), some (.int (nI k))] [.int (nI 0)] (zz_SH, I, J) _
          have h50 := fun q9 => h50 ((zz_sab hM hW (by omega) (by omega)).mpr q9)
          refine Ev.if_eq (off := 7) (tgt := 60) (by decide +kernel) (by decide) (fun h53 => ?_) (fun h53 => absurd h53 (by decide))
          refine Ev.run [(.iconst 0, 1)] (pc' := 61) (L' := [some (.ref 3), some (.int (nI (k + 1))), some (.int (nI p)), some (.int (nI k))]) (S' := [.int (nI 0)]) rfl (by decide +kernel) rfl ?_
          exact Ev.zret rfl (by decide +kernel) (Or.inl rfl) (⟨rfl, Or.inr ⟨rfl, h50⟩⟩)
      · exact absurd ⟨q, (by omega), rfl⟩ h27
    · exact absurd ⟨p, hp, rfl⟩ h14
  · exact absurd ⟨k, (by omega), rfl⟩ h6

set_option maxRecDepth 100000 in
set_option maxHeartbeats 4000000 in
theorem c_X1_matchOf_n {sc : Nat × (Nat → Int32)} {d : Nat} (I : Nat → Nat → Int32) (J : Nat → Nat → Int64) (A : zA) (hM : CM 3 I A) (hW : WF A) (k p : Nat) (hk : k < aM A) (hp : p < aN A) (hb : aB A p = none) : EvM sc (d + 4) 0 0 mX1_matchOf [.ref 308, .ref 3, .int (nI k), .int (nI p)] (zz_SH, I, J) (fun r σ => r = some (.int (nI (mtc A k p))) ∧ ∃ h, σ = (zz_SH, zz_cs I 309 h, J)) := by
  have w1 := hW.1.1
  have w2 := hW.1.2.1
  refine EvM.of (by decide) rfl (Nat.le_of_ble_eq_true rfl) ?_
  show Ev _ _ _ _ _ 0 [some (.ref 308), some (.ref 3), some (.int (nI k)), some (.int (nI p)), none, none] [] (zz_SH, I, J) _
  refine Ev.run [(.aload_n 0, 1), (.aload_n 1, 1), (.getfield 45, 3), (.iload_n 2, 1)] (pc' := 6) (L' := [some (.ref 308), some (.ref 3), some (.int (nI k)), some (.int (nI p)), none, none]) (S' := [.int (nI k), .ref 7, .ref 308]) rfl (by decide +kernel) rfl ?_
  refine Ev.aald k (by decide +kernel) (rfl) (by decide) (rfl) (by omega) (by first | decide | omega) (zz_a84 k (by omega)) ?_
  refine Ev.run [(.aload_n 1, 1), (.getfield 51, 3), (.iload_n 3, 1)] (pc' := 12) (L' := [some (.ref 308), some (.ref 3), some (.int (nI k)), some (.int (nI p)), none, none]) (S' := [.int (nI p), .ref 4, .ref (84 + 2 * k), .ref 308]) rfl (by decide +kernel) rfl ?_
  refine Ev.aald p (by decide +kernel) (rfl) (by decide) (rfl) (by omega) (by first | decide | omega) (zz_a36 p (by omega)) ?_
  refine Ev.callV0 mX1_likeOf [.ref (84 + 2 * k), .ref (36 + 4 * p)] [] _ rfl lk_RX1_54 (by decide +kernel) (rfl) rfl rfl rfl (Nat.le_of_ble_eq_true rfl) (c_X1_likeOf I J (84 + 2 * k) (36 + 4 * p) (tz A k) (fz A p) (tt A k) (ff A p) (zz_r84 k (by omega)) (zz_r36 p (by omega)) (hM.2.2.1 k hk) (hM.2.1 p hp).2.1 (hW.2.2.1 k hk).1.2 (hW.2.1 p hp).1.2.1 (hW.tt hk) (hW.ff hp) (by omega) (by omega) (hW.2.2.1 k hk).1.1) ?_
  rintro _ _ ⟨rfl, hh, rfl⟩
  rw [show lik (tt A k) (tz A k) (ff A p) (fz A p) = lkP A k p from rfl]
  have b1 : lkP A k p ≤ 100 := lik_le _ _ _ _
  have hM1 : CM 3 (zz_cs I 309 hh) A := (zCq.cs I 309 hh (by decide)).cm hW hM
  show Ev _ _ _ _ _ 16 [some (.ref 308), some (.ref 3), some (.int (nI k)), some (.int (nI p)), none, none] [.int (nI (lkP A k p))] (zz_SH, zz_cs I 309 hh, J) _
  refine Ev.run [(.istore 4, 2), (.iload 4, 2), (.bipush 100, 2)] (pc' := 22) (L' := [some (.ref 308), some (.ref 3), some (.int (nI k)), some (.int (nI p)), some (.int (nI (lkP A k p))), none]) (S' := [.int (nI 100), .int (nI (lkP A k p))]) rfl (by decide +kernel) rfl ?_
  refine Ev.icmp_ne (off := 16) (tgt := 38) (by decide +kernel) (by decide) (fun h22 => ?_) (fun h22 => ?_)
  · have h22 : ¬ (lkP A k p) = 100 := zz_bE_f (by omega) (by omega) h22
    refine Ev.run [(.iconst 0, 1), (.istore 5, 2), (.iload 5, 2)] (pc' := 43) (L' := [some (.ref 308), some (.ref 3), some (.int (nI k)), some (.int (nI p)), some (.int (nI (lkP A k p))), some (.int (nI 0))]) (S' := [.int (nI 0)]) rfl (by decide +kernel) rfl ?_
    refine Ev.if_eq (off := 8) (tgt := 51) (by decide +kernel) (by decide) (fun h43 => ?_) (fun h43 => absurd h43 (by decide))
    refine Ev.run [(.iload 4, 2)] (pc' := 53) (L' := [some (.ref 308), some (.ref 3), some (.int (nI k)), some (.int (nI p)), some (.int (nI (lkP A k p))), some (.int (nI 0))]) (S' := [.int (nI (lkP A k p))]) rfl (by decide +kernel) rfl ?_
    exact Ev.iret rfl (by decide +kernel) (⟨by rw [mtc_ne h22], hh, rfl⟩)
  · have h22 : (lkP A k p) = 100 := zz_bE_t (by omega) (by omega) h22
    refine Ev.run [(.aload_n 1, 1), (.iload_n 2, 1), (.iload_n 3, 1)] (pc' := 28) (L' := [some (.ref 308), some (.ref 3), some (.int (nI k)), some (.int (nI p)), some (.int (nI (lkP A k p))), none]) (S' := [.int (nI p), .int (nI k), .ref 3]) rfl (by decide +kernel) rfl ?_
    refine Ev.callV0 mX2_standsAsBefore [.int (nI k), .int (nI p)] [] _ rfl lk_RX1_57 (by decide +kernel) (rfl) rfl rfl rfl (Nat.le_of_ble_eq_true rfl) (c_X2_sab_n (zz_cs I 309 hh) J A hM1 hW k p hk hp hb) ?_
    rintro _ _ ⟨rfl, rfl⟩
    show Ev _ _ _ _ _ 31 [some (.ref 308), some (.ref 3), some (.int (nI k)), some (.int (nI p)), some (.int (nI (lkP A k p))), none] [.int (nI 0)] (zz_SH, zz_cs I 309 hh, J) _
    refine Ev.if_eq (off := 7) (tgt := 38) (by decide +kernel) (by decide) (fun h31 => ?_) (fun h31 => absurd h31 (by decide))
    refine Ev.run [(.iconst 0, 1), (.istore 5, 2), (.iload 5, 2)] (pc' := 43) (L' := [some (.ref 308), some (.ref 3), some (.int (nI k)), some (.int (nI p)), some (.int (nI (lkP A k p))), some (.int (nI 0))]) (S' := [.int (nI 0)]) rfl (by decide +kernel) rfl ?_
    refine Ev.if_eq (off := 8) (tgt := 51) (by decide +kernel) (by decide) (fun h43 => ?_) (fun h43 => absurd h43 (by decide))
    refine Ev.run [(.iload 4, 2)] (pc' := 53) (L' := [some (.ref 308), some (.ref 3), some (.int (nI k)), some (.int (nI p)), some (.int (nI (lkP A k p))), some (.int (nI 0))]) (S' := [.int (nI (lkP A k p))]) rfl (by decide +kernel) rfl ?_
    exact Ev.iret rfl (by decide +kernel) (⟨by rw [mtc_no h22 hb], hh, rfl⟩)

set_option maxRecDepth 100000 in
set_option maxHeartbeats 4000000 in
theorem c_X1_matchOf_0 {sc : Nat × (Nat → Int32)} {d : Nat} (I : Nat → Nat → Int32) (J : Nat → Nat → Int64) (A : zA) (hM : CM 3 I A) (hW : WF A) (p : Nat) (hk : 0 < aM A) (hp : p < aN A) : EvM sc (d + 4) 0 0 mX1_matchOf [.ref 308, .ref 3, .int (nI 0), .int (nI p)] (zz_SH, I, J) (fun r σ => r = some (.int (nI (mtc A 0 p))) ∧ ∃ h, σ = (zz_SH, zz_cs I 309 h, J)) := by
  have w1 := hW.1.1
  have w2 := hW.1.2.1
  refine EvM.of (by decide) rfl (Nat.le_of_ble_eq_true rfl) ?_
  show Ev _ _ _ _ _ 0 [some (.ref 308), some (.ref 3), some (.int (nI 0)), some (.int (nI p)), none, none] [] (zz_SH, I, J) _
  refine Ev.run [(.aload_n 0, 1), (.aload_n 1, 1), (.getfield 45, 3), (.iload_n 2, 1)] (pc' := 6) (L' := [some (.ref 308), some (.ref 3), some (.int (nI 0)), some (.int (nI p)), none, none]) (S' := [.int (nI 0), .ref 7, .ref 308]) rfl (by decide +kernel) rfl ?_
  refine Ev.aald 0 (by decide +kernel) rfl (by decide) rfl (by decide) (by decide) rfl ?_
  refine Ev.run [(.aload_n 1, 1), (.getfield 51, 3), (.iload_n 3, 1)] (pc' := 12) (L' := [some (.ref 308), some (.ref 3), some (.int (nI 0)), some (.int (nI p)), none, none]) (S' := [.int (nI p), .ref 4, .ref 84, .ref 308]) rfl (by decide +kernel) rfl ?_
  refine Ev.aald p (by decide +kernel) (rfl) (by decide) (rfl) (by omega) (by first | decide | omega) (zz_a36 p (by omega)) ?_
  refine Ev.callV0 mX1_likeOf [.ref 84, .ref (36 + 4 * p)] [] _ rfl lk_RX1_54 (by decide +kernel) (rfl) rfl rfl rfl (Nat.le_of_ble_eq_true rfl) (c_X1_likeOf I J (84 + 2 * 0) (36 + 4 * p) (tz A 0) (fz A p) (tt A 0) (ff A p) (zz_r84 0 (by omega)) (zz_r36 p (by omega)) (hM.2.2.1 0 hk) (hM.2.1 p hp).2.1 (hW.2.2.1 0 hk).1.2 (hW.2.1 p hp).1.2.1 (hW.tt hk) (hW.ff hp) (by omega) (by omega) (hW.2.2.1 0 hk).1.1) ?_
  rintro _ _ ⟨rfl, hh, rfl⟩
  rw [show lik (tt A 0) (tz A 0) (ff A p) (fz A p) = lkP A 0 p from rfl]
  have b1 : lkP A 0 p ≤ 100 := lik_le _ _ _ _
  have hM1 : CM 3 (zz_cs I 309 hh) A := (zCq.cs I 309 hh (by decide)).cm hW hM
  show Ev _ _ _ _ _ 16 [some (.ref 308), some (.ref 3), some (.int (nI 0)), some (.int (nI p)), none, none] [.int (nI (lkP A 0 p))] (zz_SH, zz_cs I 309 hh, J) _
  refine Ev.run [(.istore 4, 2), (.iload 4, 2), (.bipush 100, 2)] (pc' := 22) (L' := [some (.ref 308), some (.ref 3), some (.int (nI 0)), some (.int (nI p)), some (.int (nI (lkP A 0 p))), none]) (S' := [.int (nI 100), .int (nI (lkP A 0 p))]) rfl (by decide +kernel) rfl ?_
  refine Ev.icmp_ne (off := 16) (tgt := 38) (by decide +kernel) (by decide) (fun h22 => ?_) (fun h22 => ?_)
  · have h22 : ¬ (lkP A 0 p) = 100 := zz_bE_f (by omega) (by omega) h22
    refine Ev.run [(.iconst 0, 1), (.istore 5, 2), (.iload 5, 2)] (pc' := 43) (L' := [some (.ref 308), some (.ref 3), some (.int (nI 0)), some (.int (nI p)), some (.int (nI (lkP A 0 p))), some (.int (nI 0))]) (S' := [.int (nI 0)]) rfl (by decide +kernel) rfl ?_
    refine Ev.if_eq (off := 8) (tgt := 51) (by decide +kernel) (by decide) (fun h43 => ?_) (fun h43 => absurd h43 (by decide))
    refine Ev.run [(.iload 4, 2)] (pc' := 53) (L' := [some (.ref 308), some (.ref 3), some (.int (nI 0)), some (.int (nI p)), some (.int (nI (lkP A 0 p))), some (.int (nI 0))]) (S' := [.int (nI (lkP A 0 p))]) rfl (by decide +kernel) rfl ?_
    exact Ev.iret rfl (by decide +kernel) (⟨by rw [mtc_ne h22], hh, rfl⟩)
  · have h22 : (lkP A 0 p) = 100 := zz_bE_t (by omega) (by omega) h22
    refine Ev.run [(.aload_n 1, 1), (.iload_n 2, 1), (.iload_n 3, 1)] (pc' := 28) (L' := [some (.ref 308), some (.ref 3), some (.int (nI 0)), some (.int (nI p)), some (.int (nI (lkP A 0 p))), none]) (S' := [.int (nI p), .int (nI 0), .ref 3]) rfl (by decide +kernel) rfl ?_
    refine Ev.callV0 mX2_standsAsBefore [.int (nI 0), .int (nI p)] [] _ rfl lk_RX1_57 (by decide +kernel) (rfl) rfl rfl rfl (Nat.le_of_ble_eq_true rfl) (c_X2_sab_0 (zz_cs I 309 hh) J A hM1 hW p) ?_
    rintro _ _ ⟨rfl, rfl⟩
    show Ev _ _ _ _ _ 31 [some (.ref 308), some (.ref 3), some (.int (nI 0)), some (.int (nI p)), some (.int (nI (lkP A 0 p))), none] [.int (nI 0)] (zz_SH, zz_cs I 309 hh, J) _
    refine Ev.if_eq (off := 7) (tgt := 38) (by decide +kernel) (by decide) (fun h31 => ?_) (fun h31 => absurd h31 (by decide))
    refine Ev.run [(.iconst 0, 1), (.istore 5, 2), (.iload 5, 2)] (pc' := 43) (L' := [some (.ref 308), some (.ref 3), some (.int (nI 0)), some (.int (nI p)), some (.int (nI (lkP A 0 p))), some (.int (nI 0))]) (S' := [.int (nI 0)]) rfl (by decide +kernel) rfl ?_
    refine Ev.if_eq (off := 8) (tgt := 51) (by decide +kernel) (by decide) (fun h43 => ?_) (fun h43 => absurd h43 (by decide))
    refine Ev.run [(.iload 4, 2)] (pc' := 53) (L' := [some (.ref 308), some (.ref 3), some (.int (nI 0)), some (.int (nI p)), some (.int (nI (lkP A 0 p))), some (.int (nI 0))]) (S' := [.int (nI (lkP A 0 p))]) rfl (by decide +kernel) rfl ?_
    exact Ev.iret rfl (by decide +kernel) (⟨by rw [mtc_0 h22 (Nat.le_refl _)], hh, rfl⟩)

set_option maxRecDepth 100000 in
set_option maxHeartbeats 4000000 in
theorem c_X1_matchOf_s {sc : Nat × (Nat → Int32)} {d : Nat} (I : Nat → Nat → Int32) (J : Nat → Nat → Int64) (A : zA) (hM : CM 3 I A) (hW : WF A) (k p : Nat) (hk : k + 1 < aM A) (hp : p < aN A) (q : Nat) (hb : aB A p = some q) : EvM sc (d + 4) 0 0 mX1_matchOf [.ref 308, .ref 3, .int (nI (k + 1)), .int (nI p)] (zz_SH, I, J) (fun r σ => r = some (.int (nI (mtc A (k + 1) p))) ∧ ∃ h, σ = (zz_SH, zz_cs I 309 h, J)) := by
  have w1 := hW.1.1
  have w2 := hW.1.2.1
  refine EvM.of (by decide) rfl (Nat.le_of_ble_eq_true rfl) ?_
  show Ev _ _ _ _ _ 0 [some (.ref 308), some (.ref 3), some (.int (nI (k + 1))), some (.int (nI p)), none, none] [] (zz_SH, I, J) _
  refine Ev.run [(.aload_n 0, 1), (.aload_n 1, 1), (.getfield 45, 3), (.iload_n 2, 1)] (pc' := 6) (L' := [some (.ref 308), some (.ref 3), some (.int (nI (k + 1))), some (.int (nI p)), none, none]) (S' := [.int (nI (k + 1)), .ref 7, .ref 308]) rfl (by decide +kernel) rfl ?_
  refine Ev.aald (k + 1) (by decide +kernel) (rfl) (by decide) (rfl) (by omega) (by first | decide | omega) (zz_a84 (k + 1) (by omega)) ?_
  refine Ev.run [(.aload_n 1, 1), (.getfield 51, 3), (.iload_n 3, 1)] (pc' := 12) (L' := [some (.ref 308), some (.ref 3), some (.int (nI (k + 1))), some (.int (nI p)), none, none]) (S' := [.int (nI p), .ref 4, .ref (84 + 2 * (k + 1)), .ref 308]) rfl (by decide +kernel) rfl ?_
  refine Ev.aald p (by decide +kernel) (rfl) (by decide) (rfl) (by omega) (by first | decide | omega) (zz_a36 p (by omega)) ?_
  refine Ev.callV0 mX1_likeOf [.ref (84 + 2 * (k + 1)), .ref (36 + 4 * p)] [] _ rfl lk_RX1_54 (by decide +kernel) (rfl) rfl rfl rfl (Nat.le_of_ble_eq_true rfl) (c_X1_likeOf I J (84 + 2 * (k + 1)) (36 + 4 * p) (tz A (k + 1)) (fz A p) (tt A (k + 1)) (ff A p) (zz_r84 (k + 1) (by omega)) (zz_r36 p (by omega)) (hM.2.2.1 (k + 1) hk) (hM.2.1 p hp).2.1 (hW.2.2.1 (k + 1) hk).1.2 (hW.2.1 p hp).1.2.1 (hW.tt hk) (hW.ff hp) (by omega) (by omega) (hW.2.2.1 (k + 1) hk).1.1) ?_
  rintro _ _ ⟨rfl, hh, rfl⟩
  rw [show lik (tt A (k + 1)) (tz A (k + 1)) (ff A p) (fz A p) = lkP A (k + 1) p from rfl]
  have b1 : lkP A (k + 1) p ≤ 100 := lik_le _ _ _ _
  have hM1 : CM 3 (zz_cs I 309 hh) A := (zCq.cs I 309 hh (by decide)).cm hW hM
  show Ev _ _ _ _ _ 16 [some (.ref 308), some (.ref 3), some (.int (nI (k + 1))), some (.int (nI p)), none, none] [.int (nI (lkP A (k + 1) p))] (zz_SH, zz_cs I 309 hh, J) _
  refine Ev.run [(.istore 4, 2), (.iload 4, 2), (.bipush 100, 2)] (pc' := 22) (L' := [some (.ref 308), some (.ref 3), some (.int (nI (k + 1))), some (.int (nI p)), some (.int (nI (lkP A (k + 1) p))), none]) (S' := [.int (nI 100), .int (nI (lkP A (k + 1) p))]) rfl (by decide +kernel) rfl ?_
  refine Ev.icmp_ne (off := 16) (tgt := 38) (by decide +kernel) (by decide) (fun h22 => ?_) (fun h22 => ?_)
  · have h22 : ¬ (lkP A (k + 1) p) = 100 := zz_bE_f (by omega) (by omega) h22
    refine Ev.run [(.iconst 0, 1), (.istore 5, 2), (.iload 5, 2)] (pc' := 43) (L' := [some (.ref 308), some (.ref 3), some (.int (nI (k + 1))), some (.int (nI p)), some (.int (nI (lkP A (k + 1) p))), some (.int (nI 0))]) (S' := [.int (nI 0)]) rfl (by decide +kernel) rfl ?_
    refine Ev.if_eq (off := 8) (tgt := 51) (by decide +kernel) (by decide) (fun h43 => ?_) (fun h43 => absurd h43 (by decide))
    refine Ev.run [(.iload 4, 2)] (pc' := 53) (L' := [some (.ref 308), some (.ref 3), some (.int (nI (k + 1))), some (.int (nI p)), some (.int (nI (lkP A (k + 1) p))), some (.int (nI 0))]) (S' := [.int (nI (lkP A (k + 1) p))]) rfl (by decide +kernel) rfl ?_
    exact Ev.iret rfl (by decide +kernel) (⟨by rw [mtc_ne h22], hh, rfl⟩)
  · have h22 : (lkP A (k + 1) p) = 100 := zz_bE_t (by omega) (by omega) h22
    refine Ev.run [(.aload_n 1, 1), (.iload_n 2, 1), (.iload_n 3, 1)] (pc' := 28) (L' := [some (.ref 308), some (.ref 3), some (.int (nI (k + 1))), some (.int (nI p)), some (.int (nI (lkP A (k + 1) p))), none]) (S' := [.int (nI p), .int (nI (k + 1)), .ref 3]) rfl (by decide +kernel) rfl ?_
    refine Ev.callV0 mX2_standsAsBefore [.int (nI (k + 1)), .int (nI p)] [] _ rfl lk_RX1_57 (by decide +kernel) (rfl) rfl rfl rfl (Nat.le_of_ble_eq_true rfl) (c_X2_sab_s (zz_cs I 309 hh) J A hM1 hW k p hk hp q hb) ?_
    rintro _ _ ⟨rfl, ⟨rfl, h28⟩ | ⟨rfl, h28⟩⟩
    · show Ev _ _ _ _ _ 31 [some (.ref 308), some (.ref 3), some (.int (nI (k + 1))), some (.int (nI p)), some (.int (nI (lkP A (k + 1) p))), none] [.int (nI 1)] (zz_SH, zz_cs I 309 hh, J) _
      refine Ev.if_eq (off := 7) (tgt := 38) (by decide +kernel) (by decide) (fun h31 => absurd h31 (by decide)) (fun h31 => ?_)
      refine Ev.run [(.iconst 1, 1)] (pc' := 35) (L' := [some (.ref 308), some (.ref 3), some (.int (nI (k + 1))), some (.int (nI p)), some (.int (nI (lkP A (k + 1) p))), none]) (S' := [.int (nI 1)]) rfl (by decide +kernel) rfl ?_
      refine Ev.goto (off := 4) (tgt := 39) (by decide +kernel) (by decide) ?_
      refine Ev.run [(.istore 5, 2), (.iload 5, 2)] (pc' := 43) (L' := [some (.ref 308), some (.ref 3), some (.int (nI (k + 1))), some (.int (nI p)), some (.int (nI (lkP A (k + 1) p))), some (.int (nI 1))]) (S' := [.int (nI 1)]) rfl (by decide +kernel) rfl ?_
      refine Ev.if_eq (off := 8) (tgt := 51) (by decide +kernel) (by decide) (fun h43 => absurd h43 (by decide)) (fun h43 => ?_)
      refine Ev.run [(.bipush 101, 2)] (pc' := 48) (L' := [some (.ref 308), some (.ref 3), some (.int (nI (k + 1))), some (.int (nI p)), some (.int (nI (lkP A (k + 1) p))), some (.int (nI 1))]) (S' := [.int (nI 101)]) rfl (by decide +kernel) rfl ?_
      refine Ev.goto (off := 5) (tgt := 53) (by decide +kernel) (by decide) ?_
      exact Ev.iret rfl (by decide +kernel) (⟨by rw [mtc_y h22 hb (by omega) h28], hh, rfl⟩)
    · show Ev _ _ _ _ _ 31 [some (.ref 308), some (.ref 3), some (.int (nI (k + 1))), some (.int (nI p)), some (.int (nI (lkP A (k + 1) p))), none] [.int (nI 0)] (zz_SH, zz_cs I 309 hh, J) _
      refine Ev.if_eq (off := 7) (tgt := 38) (by decide +kernel) (by decide) (fun h31 => ?_) (fun h31 => absurd h31 (by decide))
      refine Ev.run [(.iconst 0, 1), (.istore 5, 2), (.iload 5, 2)] (pc' := 43) (L' := [some (.ref 308), some (.ref 3), some (.int (nI (k + 1))), some (.int (nI p)), some (.int (nI (lkP A (k + 1) p))), some (.int (nI 0))]) (S' := [.int (nI 0)]) rfl (by decide +kernel) rfl ?_
      refine Ev.if_eq (off := 8) (tgt := 51) (by decide +kernel) (by decide) (fun h43 => ?_) (fun h43 => absurd h43 (by decide))
      refine Ev.run [(.iload 4, 2)] (pc' := 53) (L' := [some (.ref 308), some (.ref 3), some (.int (nI (k + 1))), some (.int (nI p)), some (.int (nI (lkP A (k + 1) p))), some (.int (nI 0))]) (S' := [.int (nI (lkP A (k + 1) p))]) rfl (by decide +kernel) rfl ?_
      exact Ev.iret rfl (by decide +kernel) (⟨by rw [mtc_n h22 hb (by omega) h28], hh, rfl⟩)

theorem c_X1_matchOf {sc : Nat × (Nat → Int32)} {d : Nat} (I : Nat → Nat → Int32) (J : Nat → Nat → Int64) (A : zA) (hM : CM 3 I A) (hW : WF A) (k p : Nat) (hk : k < aM A) (hp : p < aN A) : EvM sc (d + 4) 0 0 mX1_matchOf [.ref 308, .ref 3, .int (nI k), .int (nI p)] (zz_SH, I, J) (fun r σ => r = some (.int (nI (mtc A k p))) ∧ ∃ h, σ = (zz_SH, zz_cs I 309 h, J)) := by
  cases hb : aB A p with
  | none => exact c_X1_matchOf_n I J A hM hW k p hk hp hb
  | some q =>
    cases k with
    | zero => exact c_X1_matchOf_0 I J A hM hW p hk hp
    | succ k => exact c_X1_matchOf_s I J A hM hW k p hk hp q hb

set_option maxRecDepth 100000 in
set_option maxHeartbeats 4000000 in
theorem l_X1_meetPair {sc : Nat × (Nat → Int32)} {d : Nat} (I : Nat → Nat → Int32) (J : Nat → Nat → Int64) (A : zA) (hM : CM 3 I A) (hW : WF A) (p : Nat) (hp : p < aN A) : ∀ (μ : Nat) (i : Nat) (I1 : Nat → Nat → Int32), aM A - i < μ → (i ≤ aM A) → (∀ c, (c < 9 ∨ 18 < c) → c ≠ 309 → I1 c = I c) → (∀ s, s < i → I1 (9 + s) = upd (I (9 + s)) p (nI (mtc A s p))) → (∀ s, i ≤ s → s < 10 → I1 (9 + s) = I (9 + s)) →  Ev sc (d + 5) 0 0 mX1_meetPair 2 [some (.ref 308), some (.ref 3), some (.int (nI p)), some (.int (nI i))] [] (zz_SH, I1, J) (fun r σ => r = none ∧ ∃ I' : Nat → Nat → Int32, σ = (zz_SH, I', J) ∧ (∀ c, (c < 9 ∨ 18 < c) → c ≠ 309 → I' c = I c) ∧ ∀ s, s < aM A → I' (9 + s) = upd (I (9 + s)) p (nI (mtc A s p))) := by
  intro μ
  induction μ with
  | zero => intro i I1 hμ; exact absurd hμ (Nat.not_lt_zero _)
  | succ μ ih =>
    intro i I1 hμ hi f1 f2 f3
    have w1 := hW.1.1
    have w2 := hW.1.2.1
    have hM1 : CM 3 I1 A := hM.fr hW (fun c h1 h2 h3 => f1 c (by omega) (by omega))
    refine Ev.run [(.iload_n 3, 1), (.aload_n 1, 1), (.getfield 61, 3)] (pc' := 7) (L' := [some (.ref 308), some (.ref 3), some (.int (nI p)), some (.int (nI i))]) (S' := [.int (I1 3 11), .int (nI i)]) rfl (by decide +kernel) rfl ?_
    rw [show I1 3 11 = nI (aM A) from hM1.1.2]
    refine Ev.icmp_ge (off := 24) (tgt := 31) (by decide +kernel) (by decide) (fun h7 => ?_) (fun h7 => ?_)
    · have h7 : i ≥ (aM A) := zz_bG_t (by omega) (by omega) h7
      have hie : aM A = i := by omega
      exact Ev.vret rfl (by decide +kernel) (⟨rfl, I1, rfl, f1, fun s hs => f2 s (by omega)⟩)
    · have h7 : i < (aM A) := zz_bG_f (by omega) (by omega) h7
      refine Ev.run [(.aload_n 1, 1), (.getfield 64, 3), (.iload_n 3, 1)] (pc' := 15) (L' := [some (.ref 308), some (.ref 3), some (.int (nI p)), some (.int (nI i))]) (S' := [.int (nI i), .ref 8]) rfl (by decide +kernel) rfl ?_
      refine Ev.aald i (by decide +kernel) (rfl) (by decide) (rfl) (by omega) (by first | decide | omega) (zz_b9 i (by omega)) ?_
      refine Ev.run [(.iload_n 2, 1), (.aload_n 0, 1), (.aload_n 1, 1), (.iload_n 3, 1), (.iload_n 2, 1)] (pc' := 21) (L' := [some (.ref 308), some (.ref 3), some (.int (nI p)), some (.int (nI i))]) (S' := [.int (nI p), .int (nI i), .ref 3, .ref 308, .int (nI p), .ref (9 + i)]) rfl (by decide +kernel) rfl ?_
      refine Ev.callV0 mX1_matchOf [.ref 3, .int (nI i), .int (nI p)] [.int (nI p), .ref (9 + i)] _ rfl lk_RX1_68 (by decide +kernel) (rfl) rfl rfl rfl (Nat.le_of_ble_eq_true rfl) (c_X1_matchOf I1 J A hM1 hW i p (by omega) hp) ?_
      rintro _ _ ⟨rfl, hh, rfl⟩
      show Ev _ _ _ _ _ 24 [some (.ref 308), some (.ref 3), some (.int (nI p)), some (.int (nI i))] [.int (nI (mtc A i p)), .int (nI p), .ref (9 + i)] (zz_SH, zz_cs I1 309 hh, J) _
      refine Ev.iast p (by decide +kernel) (zz_s9 i (by omega)) (rfl) (by omega) (by first | decide | omega) ?_
      dsimp only
      refine Ev.run [(.iinc 3 1, 3)] (pc' := 28) (L' := [some (.ref 308), some (.ref 3), some (.int (nI p)), some (.int (nI i + 1))]) (S' := []) rfl (by decide +kernel) rfl ?_
      rw [nI_1 i]
      refine Ev.goto (off := (-26)) (tgt := 2) (by decide +kernel) (by decide) ?_
      refine ih (i + 1) _ (by omega) (by omega) (fun c h1 h2 => ?_) (fun s h1 => ?_) (fun s h1 h2 => ?_)
      · rw [zz_up_ne (by omega), zz_cs_ne (by omega)]; exact f1 c h1 h2
      · by_cases e : s = i
        · subst e; rw [zz_up_eq, zz_cs_ne (by omega), f3 s (by omega) (by omega)]
        · rw [zz_up_ne (by omega), zz_cs_ne (by omega)]; exact f2 s (by omega)
      · rw [zz_up_ne (by omega), zz_cs_ne (by omega)]; exact f3 s (by omega) h2

set_option maxRecDepth 100000 in
set_option maxHeartbeats 4000000 in
theorem c_X1_meetPair {sc : Nat × (Nat → Int32)} {d : Nat} (I : Nat → Nat → Int32) (J : Nat → Nat → Int64) (A : zA) (hM : CM 3 I A) (hW : WF A) (p : Nat) (hp : p < aN A) : EvM sc (d + 5) 0 0 mX1_meetPair [.ref 308, .ref 3, .int (nI p)] (zz_SH, I, J) (fun r σ => r = none ∧ ∃ I' : Nat → Nat → Int32, σ = (zz_SH, I', J) ∧ (∀ c, (c < 9 ∨ 18 < c) → c ≠ 309 → I' c = I c) ∧ ∀ s, s < aM A → I' (9 + s) = upd (I (9 + s)) p (nI (mtc A s p))) := by
  have w1 := hW.1.1
  have w2 := hW.1.2.1
  refine EvM.of (by decide) rfl (Nat.le_of_ble_eq_true rfl) ?_
  show Ev _ _ _ _ _ 0 [some (.ref 308), some (.ref 3), some (.int (nI p)), none] [] (zz_SH, I, J) _
  refine Ev.run [(.iconst 0, 1), (.istore_n 3, 1)] (pc' := 2) (L' := [some (.ref 308), some (.ref 3), some (.int (nI p)), some (.int (nI 0))]) (S' := []) rfl (by decide +kernel) rfl ?_
  exact l_X1_meetPair I J A hM hW p hp (aM A + 1) 0 I (by omega) (by omega) (fun _ _ _ => rfl) (fun s h => absurd h (Nat.not_lt_zero s)) (fun _ _ _ => rfl)

theorem chg_sym (x y : Nat) : chg x y = chg y x := by
  unfold chg
  by_cases h : x = y
  · rw [if_pos h, if_pos h.symm]
  · rw [if_neg h, if_neg (show ¬ y = x from fun q => h q.symm)]
    by_cases h2 : 48 ≤ x ∧ x ≤ 57 ∧ 48 ≤ y ∧ y ≤ 57
    · rw [if_pos h2, if_pos (by omega)]
    · rw [if_neg h2, if_neg (by omega)]
theorem DD_sym (f g : Nat → Nat) : ∀ i j, DD f g i j = DD g f j i
  | 0, j => by rw [DD_0, DD_z]
  | i + 1, 0 => by rw [DD_z, DD_0]
  | i + 1, j + 1 => by
    rw [DD, DD, DD_sym f g i j, DD_sym f g i (j + 1), DD_sym f g (i + 1) j, chg_sym (f i) (g j)]
    omega
theorem lkT_sym (A : zA) (s t : Nat) : lkT A s t = lkT A t s := by
  rw [lkT, lkT, lik, lik, DD_sym, Nat.max_comm]

set_option maxRecDepth 100000 in
set_option maxHeartbeats 4000000 in
theorem l_X1_meetS2 {sc : Nat × (Nat → Int32)} {d : Nat} (I : Nat → Nat → Int32) (J : Nat → Nat → Int64) (A : zA) (hM : CM 3 I A) (hW : WF A) (k : Nat) (hk : k < aM A) : ∀ (μ : Nat) (i : Nat) (I1 : Nat → Nat → Int32), aM A - i < μ → (i ≤ aM A) → (∀ c, (c < 9 ∨ 29 < c) → c ≠ 309 → I1 c = I c) → (∀ p, p < aN A → I1 (9 + k) p = nI (mtc A k p)) → (∀ s, s < 10 → s ≠ k → I1 (9 + s) = I (9 + s)) → (∀ u, u < i → I1 (20 + k) u = nI (lkT A k u) ∧ I1 (20 + u) k = nI (lkT A k u)) → (∀ u v, u < 10 → u ≠ k → v ≠ k → I1 (20 + u) v = I (20 + u) v) →  Ev sc (d + 5) 0 0 mX1_meetSentence 33 [some (.ref 308), some (.ref 3), some (.int (nI k)), some (.int (nI i)), none] [] (zz_SH, I1, J) (fun r σ => r = none ∧ ∃ I' : Nat → Nat → Int32, σ = (zz_SH, I', J) ∧ (∀ c, (c < 9 ∨ 29 < c) → c ≠ 309 → I' c = I c) ∧ (∀ p, p < aN A → I' (9 + k) p = nI (mtc A k p)) ∧ (∀ s, s < 10 → s ≠ k → I' (9 + s) = I (9 + s)) ∧ (∀ u, u < aM A → I' (20 + k) u = nI (lkT A k u) ∧ I' (20 + u) k = nI (lkT A k u)) ∧ ∀ u v, u < 10 → u ≠ k → v ≠ k → I' (20 + u) v = I (20 + u) v) := by
  intro μ
  induction μ with
  | zero => intro i I1 hμ; exact absurd hμ (Nat.not_lt_zero _)
  | succ μ ih =>
    intro i I1 hμ hi f1 f2 f3 f4 f5
    have w1 := hW.1.1
    have w2 := hW.1.2.1
    have hM1 : CM 3 I1 A := hM.fr hW (fun c h1 h2 h3 => f1 c (by omega) (by omega))
    refine Ev.run [(.iload_n 3, 1), (.aload_n 1, 1), (.getfield 61, 3)] (pc' := 38) (L' := [some (.ref 308), some (.ref 3), some (.int (nI k)), some (.int (nI i)), none]) (S' := [.int (I1 3 11), .int (nI i)]) rfl (by decide +kernel) rfl ?_
    rw [show I1 3 11 = nI (aM A) from hM1.1.2]
    refine Ev.icmp_ge (off := 47) (tgt := 85) (by decide +kernel) (by decide) (fun h38 => ?_) (fun h38 => ?_)
    · have h38 : i ≥ (aM A) := zz_bG_t (by omega) (by omega) h38
      have hie : aM A = i := by omega
      exact Ev.vret rfl (by decide +kernel) (⟨rfl, I1, rfl, f1, f2, f3, fun u hu => f4 u (by omega), f5⟩)
    · have h38 : i < (aM A) := zz_bG_f (by omega) (by omega) h38
      refine Ev.run [(.aload_n 0, 1), (.aload_n 1, 1), (.getfield 45, 3), (.iload_n 2, 1)] (pc' := 47) (L' := [some (.ref 308), some (.ref 3), some (.int (nI k)), some (.int (nI i)), none]) (S' := [.int (nI k), .ref 7, .ref 308]) rfl (by decide +kernel) rfl ?_
      refine Ev.aald k (by decide +kernel) (rfl) (by decide) (rfl) (by omega) (by first | decide | omega) (zz_a84 k (by omega)) ?_
      refine Ev.run [(.aload_n 1, 1), (.getfield 45, 3), (.iload_n 3, 1)] (pc' := 53) (L' := [some (.ref 308), some (.ref 3), some (.int (nI k)), some (.int (nI i)), none]) (S' := [.int (nI i), .ref 7, .ref (84 + 2 * k), .ref 308]) rfl (by decide +kernel) rfl ?_
      refine Ev.aald i (by decide +kernel) (rfl) (by decide) (rfl) (by omega) (by first | decide | omega) (zz_a84 i (by omega)) ?_
      refine Ev.callV0 mX1_likeOf [.ref (84 + 2 * k), .ref (84 + 2 * i)] [] _ rfl lk_RX1_54 (by decide +kernel) (rfl) rfl rfl rfl (Nat.le_of_ble_eq_true rfl) (c_X1_likeOf I1 J (84 + 2 * k) (84 + 2 * i) (tz A k) (tz A i) (tt A k) (tt A i) (zz_r84 k (by omega)) (zz_r84 i (by omega)) (hM1.2.2.1 k hk) (hM1.2.2.1 i (by omega)) (hW.2.2.1 k hk).1.2 (hW.2.2.1 i (by omega)).1.2 (hW.tt hk) (hW.tt (by omega)) (by omega) (by omega) (hW.2.2.1 k hk).1.1) ?_
      rintro _ _ ⟨rfl, hh, rfl⟩
      rw [show lik (tt A k) (tz A k) (tt A i) (tz A i) = lkT A k i from rfl]
      show Ev _ _ _ _ _ 57 [some (.ref 308), some (.ref 3), some (.int (nI k)), some (.int (nI i)), none] [.int (nI (lkT A k i))] (zz_SH, zz_cs I1 309 hh, J) _
      refine Ev.run [(.istore 4, 2), (.aload_n 1, 1), (.getfield 75, 3), (.iload_n 2, 1)] (pc' := 64) (L' := [some (.ref 308), some (.ref 3), some (.int (nI k)), some (.int (nI i)), some (.int (nI (lkT A k i)))]) (S' := [.int (nI k), .ref 19]) rfl (by decide +kernel) rfl ?_
      refine Ev.aald k (by decide +kernel) (rfl) (by decide) (rfl) (by omega) (by first | decide | omega) (zz_b20 k (by omega)) ?_
      refine Ev.run [(.iload_n 3, 1), (.iload 4, 2)] (pc' := 68) (L' := [some (.ref 308), some (.ref 3), some (.int (nI k)), some (.int (nI i)), some (.int (nI (lkT A k i)))]) (S' := [.int (nI (lkT A k i)), .int (nI i), .ref (20 + k)]) rfl (by decide +kernel) rfl ?_
      refine Ev.iast i (by decide +kernel) (zz_s20 k (by omega)) (rfl) (by omega) (by first | decide | omega) ?_
      dsimp only
      refine Ev.run [(.aload_n 1, 1), (.getfield 75, 3), (.iload_n 3, 1)] (pc' := 74) (L' := [some (.ref 308), some (.ref 3), some (.int (nI k)), some (.int (nI i)), some (.int (nI (lkT A k i)))]) (S' := [.int (nI i), .ref 19]) rfl (by decide +kernel) rfl ?_
      refine Ev.aald i (by decide +kernel) (rfl) (by decide) (rfl) (by omega) (by first | decide | omega) (zz_b20 i (by omega)) ?_
      refine Ev.run [(.iload_n 2, 1), (.iload 4, 2)] (pc' := 78) (L' := [some (.ref 308), some (.ref 3), some (.int (nI k)), some (.int (nI i)), some (.int (nI (lkT A k i)))]) (S' := [.int (nI (lkT A k i)), .int (nI k), .ref (20 + i)]) rfl (by decide +kernel) rfl ?_
      refine Ev.iast k (by decide +kernel) (zz_s20 i (by omega)) (rfl) (by omega) (by first | decide | omega) ?_
      dsimp only
      refine Ev.run [(.iinc 3 1, 3)] (pc' := 82) (L' := [some (.ref 308), some (.ref 3), some (.int (nI k)), some (.int (nI i + 1)), some (.int (nI (lkT A k i)))]) (S' := []) rfl (by decide +kernel) rfl ?_
      rw [nI_1 i]
      refine Ev.goto (off := (-49)) (tgt := 33) (by decide +kernel) (by decide) ?_
      refine Ev.weakL (L' := [some (.ref 308), some (.ref 3), some (.int (nI k)), some (.int (nI (i + 1))), none]) ⟨rfl, rfl, rfl, rfl, trivial⟩ ?_
      refine ih (i + 1) _ (by omega) (by omega) (fun c h1 h2 => ?_) (fun p hp => ?_) (fun s h1 h2 => ?_) (fun u hu => ?_) (fun u v h1 h2 h3 => ?_)
      · rw [zz_up_ne (by omega), zz_up_ne (by omega), zz_cs_ne (by omega)]; exact f1 c h1 h2
      · rw [zz_up_ne (by omega), zz_up_ne (by omega), zz_cs_ne (by omega)]; exact f2 p hp
      · rw [zz_up_ne (by omega), zz_up_ne (by omega), zz_cs_ne (by omega)]; exact f3 s h1 h2
      · by_cases e : u = i
        · subst e
          by_cases e2 : u = k
          · subst e2; rw [zz_up_eq, zz_ups]; exact ⟨rfl, rfl⟩
          · rw [zz_up_ne (by omega), zz_up_eq, zz_ups, zz_up_eq, zz_ups]; exact ⟨rfl, rfl⟩
        · obtain ⟨g1, g2⟩ := f4 u (by omega)
          refine ⟨?_, ?_⟩
          · by_cases e2 : i = k
            · subst e2; rw [zz_up_eq, zz_upn e, zz_up_eq, zz_upn e, zz_cs_ne (by omega)]; exact g1
            · rw [zz_up_ne (by omega), zz_up_eq, zz_upn e, zz_cs_ne (by omega)]; exact g1
          · rw [zz_up_ne (by omega)]
            by_cases e2 : u = k
            · subst e2; rw [zz_up_eq, zz_upn e, zz_cs_ne (by omega)]; exact g2
            · rw [zz_up_ne (by omega), zz_cs_ne (by omega)]; exact g2
      · by_cases e : u = i
        · subst e; rw [zz_up_eq, zz_upn h3, zz_up_ne (by omega), zz_cs_ne (by omega)]; exact f5 u v h1 h2 h3
        · rw [zz_up_ne (by omega), zz_up_ne (by omega), zz_cs_ne (by omega)]; exact f5 u v h1 h2 h3

set_option maxRecDepth 100000 in
set_option maxHeartbeats 4000000 in
theorem l_X1_meetS1 {sc : Nat × (Nat → Int32)} {d : Nat} (I : Nat → Nat → Int32) (J : Nat → Nat → Int64) (A : zA) (hM : CM 3 I A) (hW : WF A) (k : Nat) (hk : k < aM A) : ∀ (μ : Nat) (i : Nat) (I1 : Nat → Nat → Int32), aN A - i < μ → (i ≤ aN A) → (∀ c, (c < 9 ∨ 29 < c) → c ≠ 309 → I1 c = I c) → (∀ p, p < i → I1 (9 + k) p = nI (mtc A k p)) → (∀ s, s < 10 → s ≠ k → I1 (9 + s) = I (9 + s)) → (∀ u, u < 10 → I1 (20 + u) = I (20 + u)) →  Ev sc (d + 5) 0 0 mX1_meetSentence 2 [some (.ref 308), some (.ref 3), some (.int (nI k)), some (.int (nI i)), none] [] (zz_SH, I1, J) (fun r σ => r = none ∧ ∃ I' : Nat → Nat → Int32, σ = (zz_SH, I', J) ∧ (∀ c, (c < 9 ∨ 29 < c) → c ≠ 309 → I' c = I c) ∧ (∀ p, p < aN A → I' (9 + k) p = nI (mtc A k p)) ∧ (∀ s, s < 10 → s ≠ k → I' (9 + s) = I (9 + s)) ∧ (∀ u, u < aM A → I' (20 + k) u = nI (lkT A k u) ∧ I' (20 + u) k = nI (lkT A k u)) ∧ ∀ u v, u < 10 → u ≠ k → v ≠ k → I' (20 + u) v = I (20 + u) v) := by
  intro μ
  induction μ with
  | zero => intro i I1 hμ; exact absurd hμ (Nat.not_lt_zero _)
  | succ μ ih =>
    intro i I1 hμ hi f1 f2 f3 f4
    have w1 := hW.1.1
    have w2 := hW.1.2.1
    have hM1 : CM 3 I1 A := hM.fr hW (fun c h1 h2 h3 => f1 c (by omega) (by omega))
    refine Ev.run [(.iload_n 3, 1), (.aload_n 1, 1), (.getfield 72, 3)] (pc' := 7) (L' := [some (.ref 308), some (.ref 3), some (.int (nI k)), some (.int (nI i)), none]) (S' := [.int (I1 3 10), .int (nI i)]) rfl (by decide +kernel) rfl ?_
    rw [show I1 3 10 = nI (aN A) from hM1.1.1]
    refine Ev.icmp_ge (off := 24) (tgt := 31) (by decide +kernel) (by decide) (fun h7 => ?_) (fun h7 => ?_)
    · have h7 : i ≥ (aN A) := zz_bG_t (by omega) (by omega) h7
      have hie : aN A = i := by omega
      refine Ev.run [(.iconst 0, 1), (.istore_n 3, 1)] (pc' := 33) (L' := [some (.ref 308), some (.ref 3), some (.int (nI k)), some (.int (nI 0)), none]) (S' := []) rfl (by decide +kernel) rfl ?_
      exact l_X1_meetS2 I J A hM hW k hk (aM A + 1) 0 I1 (by omega) (by omega) f1 (fun p hp => f2 p (by omega)) f3 (fun u hu => absurd hu (Nat.not_lt_zero u)) (fun u v h1 _ _ => by rw [f4 u h1])
    · have h7 : i < (aN A) := zz_bG_f (by omega) (by omega) h7
      refine Ev.run [(.aload_n 1, 1), (.getfield 64, 3), (.iload_n 2, 1)] (pc' := 15) (L' := [some (.ref 308), some (.ref 3), some (.int (nI k)), some (.int (nI i)), none]) (S' := [.int (nI k), .ref 8]) rfl (by decide +kernel) rfl ?_
      refine Ev.aald k (by decide +kernel) (rfl) (by decide) (rfl) (by omega) (by first | decide | omega) (zz_b9 k (by omega)) ?_
      refine Ev.run [(.iload_n 3, 1), (.aload_n 0, 1), (.aload_n 1, 1), (.iload_n 2, 1), (.iload_n 3, 1)] (pc' := 21) (L' := [some (.ref 308), some (.ref 3), some (.int (nI k)), some (.int (nI i)), none]) (S' := [.int (nI i), .int (nI k), .ref 3, .ref 308, .int (nI i), .ref (9 + k)]) rfl (by decide +kernel) rfl ?_
      refine Ev.callV0 mX1_matchOf [.ref 3, .int (nI k), .int (nI i)] [.int (nI i), .ref (9 + k)] _ rfl lk_RX1_68 (by decide +kernel) (rfl) rfl rfl rfl (Nat.le_of_ble_eq_true rfl) (c_X1_matchOf I1 J A hM1 hW k i hk (by omega)) ?_
      rintro _ _ ⟨rfl, hh, rfl⟩
      show Ev _ _ _ _ _ 24 [some (.ref 308), some (.ref 3), some (.int (nI k)), some (.int (nI i)), none] [.int (nI (mtc A k i)), .int (nI i), .ref (9 + k)] (zz_SH, zz_cs I1 309 hh, J) _
      refine Ev.iast i (by decide +kernel) (zz_s9 k (by omega)) (rfl) (by omega) (by first | decide | omega) ?_
      dsimp only
      refine Ev.run [(.iinc 3 1, 3)] (pc' := 28) (L' := [some (.ref 308), some (.ref 3), some (.int (nI k)), some (.int (nI i + 1)), none]) (S' := []) rfl (by decide +kernel) rfl ?_
      rw [nI_1 i]
      refine Ev.goto (off := (-26)) (tgt := 2) (by decide +kernel) (by decide) ?_
      refine ih (i + 1) _ (by omega) (by omega) (fun c h1 h2 => ?_) (fun p hp => ?_) (fun s h1 h2 => ?_) (fun u h1 => ?_)
      · rw [zz_up_ne (by omega), zz_cs_ne (by omega)]; exact f1 c h1 h2
      · rw [zz_up_eq]
        by_cases e : p = i
        · subst e; rw [zz_ups]
        · rw [zz_upn e, zz_cs_ne (by omega)]; exact f2 p (by omega)
      · rw [zz_up_ne (by omega), zz_cs_ne (by omega)]; exact f3 s h1 h2
      · rw [zz_up_ne (by omega), zz_cs_ne (by omega)]; exact f4 u h1

set_option maxRecDepth 100000 in
set_option maxHeartbeats 4000000 in
theorem c_X1_meetSentence {sc : Nat × (Nat → Int32)} {d : Nat} (I : Nat → Nat → Int32) (J : Nat → Nat → Int64) (A : zA) (hM : CM 3 I A) (hW : WF A) (k : Nat) (hk : k < aM A) : EvM sc (d + 5) 0 0 mX1_meetSentence [.ref 308, .ref 3, .int (nI k)] (zz_SH, I, J) (fun r σ => r = none ∧ ∃ I' : Nat → Nat → Int32, σ = (zz_SH, I', J) ∧ (∀ c, (c < 9 ∨ 29 < c) → c ≠ 309 → I' c = I c) ∧ (∀ p, p < aN A → I' (9 + k) p = nI (mtc A k p)) ∧ (∀ s, s < 10 → s ≠ k → I' (9 + s) = I (9 + s)) ∧ (∀ u, u < aM A → I' (20 + k) u = nI (lkT A k u) ∧ I' (20 + u) k = nI (lkT A k u)) ∧ ∀ u v, u < 10 → u ≠ k → v ≠ k → I' (20 + u) v = I (20 + u) v) := by
  have w1 := hW.1.1
  have w2 := hW.1.2.1
  refine EvM.of (by decide) rfl (Nat.le_of_ble_eq_true rfl) ?_
  show Ev _ _ _ _ _ 0 [some (.ref 308), some (.ref 3), some (.int (nI k)), none, none] [] (zz_SH, I, J) _
  refine Ev.run [(.iconst 0, 1), (.istore_n 3, 1)] (pc' := 2) (L' := [some (.ref 308), some (.ref 3), some (.int (nI k)), some (.int (nI 0)), none]) (S' := []) rfl (by decide +kernel) rfl ?_
  exact l_X1_meetS1 I J A hM hW k hk (aN A + 1) 0 I (by omega) (by omega) (fun _ _ _ => rfl) (fun s h => absurd h (Nat.not_lt_zero s)) (fun _ _ _ => rfl) (fun _ _ => rfl)
