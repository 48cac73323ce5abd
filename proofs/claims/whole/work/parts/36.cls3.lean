/-! ===== the class: found, filled, prices ===== -/
def gv (x : Option (Nat × Nat)) : Nat := match x with
  | none => 0
  | some (_, v) => v
theorem gv_le (A : zA) (k n : Nat) : gv (fnd A k n) ≤ 101 := by
  cases hx : fnd A k n with
  | none => exact Nat.zero_le _
  | some y =>
    obtain ⟨p, v⟩ := y
    obtain ⟨-, h2⟩ := fnd_ok A k n p v hx
    show v ≤ 101
    rw [h2]; exact mtc_le A k p
theorem fnd_gv {A : zA} {k p : Nat} (h : mtc A k p ≥ gv (fnd A k p)) : fnd A k (p + 1) = some (p, mtc A k p) := by
  rw [fnd]
  cases hx : fnd A k p with
  | none => rfl
  | some y =>
    obtain ⟨p', v'⟩ := y
    rw [hx] at h
    exact if_pos h
theorem fnd_gl {A : zA} {k p : Nat} (h : mtc A k p < gv (fnd A k p)) : fnd A k (p + 1) = fnd A k p := by
  rw [fnd]
  cases hx : fnd A k p with
  | none => rw [hx] at h; exact absurd h (Nat.not_lt_zero _)
  | some y =>
    obtain ⟨p', v'⟩ := y
    rw [hx] at h
    exact if_neg (Nat.not_le.mpr h)
theorem fo_ne {p v n : Nat} {A : zA} {k : Nat} (hn : n < 1000) (hx : fnd A k n = some (p, v)) : ¬ nI p = (-6) := by
  obtain ⟨h1, -⟩ := fnd_ok A k n p v hx
  exact fun q => zz_m6 (p + 1) (by omega) ⟨p, Nat.lt_succ_self p, q.symm⟩

theorem zz_rat_no {I : Nat → Nat → Int32} {k n s : Nat} {p : Int32} (hs : I k 1 = nI s) (hs2 : s < 1000) (hp : ¬ zz_ix p s) : zz_rat I k n p = -6 := by
  by_cases h1 : p < 0
  · exact zz_rat_out (Or.inl h1)
  · by_cases h2 : nI s ≤ p
    · exact zz_rat_out (Or.inr (by rw [hs]; exact h2))
    · exact absurd ((zz_cix (by omega)).mpr ⟨h1, h2⟩) hp

set_option maxRecDepth 100000 in
set_option maxHeartbeats 4000000 in
theorem l_X2_bestFor {sc : Nat × (Nat → Int32)} {d : Nat} (I : Nat → Nat → Int32) (J : Nat → Nat → Int64) (A : zA) (hC : CR 3 I A) (hW : WF A) (k : Nat) (hk : k < aM A) : ∀ (μ : Nat) (p : Nat), aN A - p < μ → (p ≤ aN A) →  Ev sc (d) 0 0 mX2_bestFor 8 [some (.ref 3), some (.int (nI k)), some (.int (fo (fnd A k p))), some (.int (nI (gv (fnd A k p)))), some (.int (nI p))] [] (zz_SH, I, J) (zz_is (.int (fo (fnd A k (aN A)))) (zz_SH, I, J)) := by
  intro μ
  induction μ with
  | zero => intro p hμ; exact absurd hμ (Nat.not_lt_zero _)
  | succ μ ih =>
    intro p hμ hp
    have w1 := hW.1.1
    have w2 := hW.1.2.1
    have b1 := mtc_le A k p
    have b2 := gv_le A k p
    refine Ev.run [(.iload 4, 2), (.aload_n 0, 1), (.getfield 51, 3)] (pc' := 14) (L' := [some (.ref 3), some (.int (nI k)), some (.int (fo (fnd A k p))), some (.int (nI (gv (fnd A k p)))), some (.int (nI p))]) (S' := [.int (I 3 10), .int (nI p)]) rfl (by decide +kernel) rfl ?_
    rw [show I 3 10 = nI (aN A) from hC.1.1.1]
    refine Ev.icmp_ge (off := 35) (tgt := 49) (by decide +kernel) (by decide) (fun h14 => ?_) (fun h14 => ?_)
    · have h14 : p ≥ (aN A) := zz_bG_t (by omega) (by omega) h14
      have hpN : aN A = p := by omega
      rw [hpN]
      refine Ev.run [(.iload_n 2, 1)] (pc' := 50) (L' := [some (.ref 3), some (.int (nI k)), some (.int (fo (fnd A k p))), some (.int (nI (gv (fnd A k p)))), some (.int (nI p))]) (S' := [.int (fo (fnd A k p))]) rfl (by decide +kernel) rfl ?_
      exact Ev.iret rfl (by decide +kernel) (⟨rfl, rfl⟩)
    · have h14 : p < (aN A) := zz_bG_f (by omega) (by omega) h14
      refine Ev.run [(.aload_n 0, 1), (.getfield 29, 3), (.iload_n 1, 1)] (pc' := 22) (L' := [some (.ref 3), some (.int (nI k)), some (.int (fo (fnd A k p))), some (.int (nI (gv (fnd A k p)))), some (.int (nI p))]) (S' := [.int (nI k), .ref 8]) rfl (by decide +kernel) rfl ?_
      refine Ev.aald k (by decide +kernel) (rfl) (by decide) (rfl) (by omega) (by first | decide | omega) (zz_b9 k (by omega)) ?_
      refine Ev.run [(.iload 4, 2)] (pc' := 25) (L' := [some (.ref 3), some (.int (nI k)), some (.int (fo (fnd A k p))), some (.int (nI (gv (fnd A k p)))), some (.int (nI p))]) (S' := [.int (nI p), .ref (9 + k)]) rfl (by decide +kernel) rfl ?_
      refine Ev.iald p (by decide +kernel) (zz_s9 k (by omega)) (rfl) (by omega) (by first | decide | omega) ?_
      dsimp only
      rw [show I (9 + k) p = nI (mtc A k p) from (hC.2.1 k hk).1 p (by omega)]
      refine Ev.run [(.iload_n 3, 1)] (pc' := 27) (L' := [some (.ref 3), some (.int (nI k)), some (.int (fo (fnd A k p))), some (.int (nI (gv (fnd A k p)))), some (.int (nI p))]) (S' := [.int (nI (gv (fnd A k p))), .int (nI (mtc A k p))]) rfl (by decide +kernel) rfl ?_
      refine Ev.icmp_lt (off := 16) (tgt := 43) (by decide +kernel) (by decide) (fun h27 => ?_) (fun h27 => ?_)
      · have h27 : (mtc A k p) < (gv (fnd A k p)) := zz_bL_t (by omega) (by omega) h27
        refine Ev.run [(.iinc 4 1, 3)] (pc' := 46) (L' := [some (.ref 3), some (.int (nI k)), some (.int (fo (fnd A k p))), some (.int (nI (gv (fnd A k p)))), some (.int (nI p + 1))]) (S' := []) rfl (by decide +kernel) rfl ?_
        rw [nI_1 p]
        refine Ev.goto (off := (-38)) (tgt := 8) (by decide +kernel) (by decide) ?_
        have e9 := fnd_gl h27
        rw [← e9]
        exact ih (p + 1) (by omega) (by omega)
      · have h27 : (mtc A k p) ≥ (gv (fnd A k p)) := zz_bL_f (by omega) (by omega) h27
        refine Ev.run [(.aload_n 0, 1), (.getfield 29, 3), (.iload_n 1, 1)] (pc' := 35) (L' := [some (.ref 3), some (.int (nI k)), some (.int (fo (fnd A k p))), some (.int (nI (gv (fnd A k p)))), some (.int (nI p))]) (S' := [.int (nI k), .ref 8]) rfl (by decide +kernel) rfl ?_
        refine Ev.aald k (by decide +kernel) (rfl) (by decide) (rfl) (by omega) (by first | decide | omega) (zz_b9 k (by omega)) ?_
        refine Ev.run [(.iload 4, 2)] (pc' := 38) (L' := [some (.ref 3), some (.int (nI k)), some (.int (fo (fnd A k p))), some (.int (nI (gv (fnd A k p)))), some (.int (nI p))]) (S' := [.int (nI p), .ref (9 + k)]) rfl (by decide +kernel) rfl ?_
        refine Ev.iald p (by decide +kernel) (zz_s9 k (by omega)) (rfl) (by omega) (by first | decide | omega) ?_
        dsimp only
        rw [show I (9 + k) p = nI (mtc A k p) from (hC.2.1 k hk).1 p (by omega)]
        refine Ev.run [(.istore_n 3, 1), (.iload 4, 2), (.istore_n 2, 1), (.iinc 4 1, 3)] (pc' := 46) (L' := [some (.ref 3), some (.int (nI k)), some (.int (nI p)), some (.int (nI (mtc A k p))), some (.int (nI p + 1))]) (S' := []) rfl (by decide +kernel) rfl ?_
        rw [nI_1 p]
        refine Ev.goto (off := (-38)) (tgt := 8) (by decide +kernel) (by decide) ?_
        have e9 := fnd_gv h27
        rw [show nI p = fo (fnd A k (p + 1)) from by rw [e9]; rfl, show mtc A k p = gv (fnd A k (p + 1)) from by rw [e9]; rfl]
        exact ih (p + 1) (by omega) (by omega)

set_option maxRecDepth 100000 in
set_option maxHeartbeats 4000000 in
theorem c_X2_bestFor {sc : Nat × (Nat → Int32)} {d : Nat} (I : Nat → Nat → Int32) (J : Nat → Nat → Int64) (A : zA) (hC : CR 3 I A) (hW : WF A) (k : Nat) (hk : k < aM A) : EvM sc (d) 0 0 mX2_bestFor [.ref 3, .int (nI k)] (zz_SH, I, J) (zz_is (.int (fo (fnd A k (aN A)))) (zz_SH, I, J)) := by
  have w1 := hW.1.1
  have w2 := hW.1.2.1
  refine EvM.of (by decide) rfl (Nat.le_of_ble_eq_true rfl) ?_
  show Ev _ _ _ _ _ 0 [some (.ref 3), some (.int (nI k)), none, none, none] [] (zz_SH, I, J) _
  refine Ev.run [(.bipush (-6), 2), (.istore_n 2, 1), (.iconst 0, 1), (.istore_n 3, 1), (.iconst 0, 1), (.istore 4, 2)] (pc' := 8) (L' := [some (.ref 3), some (.int (nI k)), some (.int ((-6))), some (.int (nI 0)), some (.int (nI 0))]) (S' := []) rfl (by decide +kernel) rfl ?_
  exact l_X2_bestFor I J A hC hW k hk (aN A + 1) 0 (by omega) (by omega)

set_option maxRecDepth 100000 in
set_option maxHeartbeats 4000000 in
theorem c_X3_bandOf {sc : Nat × (Nat → Int32)} {d : Nat} (I : Nat → Nat → Int32) (J : Nat → Nat → Int64) (m : Nat) (hm : m < 1000) : EvM sc (d) 0 0 mX3_bandOf [.int (nI m)] (zz_SH, I, J) (zz_is (.int (nI (bnd m))) (zz_SH, I, J)) := by
  refine EvM.of (by decide) rfl (Nat.le_of_ble_eq_true rfl) ?_
  show Ev _ _ _ _ _ 0 [some (.int (nI m))] [] (zz_SH, I, J) _
  refine Ev.run [(.iload_n 0, 1), (.bipush 100, 2)] (pc' := 3) (L' := [some (.int (nI m))]) (S' := [.int (nI 100), .int (nI m)]) rfl (by decide +kernel) rfl ?_
  refine Ev.icmp_le (off := 5) (tgt := 8) (by decide +kernel) (by decide) (fun h3 => ?_) (fun h3 => ?_)
  · have h3 : m ≤ 100 := zz_bG'_t (by omega) (by omega) h3
    refine Ev.run [(.iload_n 0, 1), (.bipush 100, 2)] (pc' := 11) (L' := [some (.int (nI m))]) (S' := [.int (nI 100), .int (nI m)]) rfl (by decide +kernel) rfl ?_
    refine Ev.icmp_ne (off := 5) (tgt := 16) (by decide +kernel) (by decide) (fun h11 => ?_) (fun h11 => ?_)
    · have h11 : ¬ m = 100 := zz_bE_f (by omega) (by omega) h11
      refine Ev.run [(.iload_n 0, 1), (.bipush 85, 2)] (pc' := 19) (L' := [some (.int (nI m))]) (S' := [.int (nI 85), .int (nI m)]) rfl (by decide +kernel) rfl ?_
      refine Ev.icmp_lt (off := 5) (tgt := 24) (by decide +kernel) (by decide) (fun h19 => ?_) (fun h19 => ?_)
      · have h19 : m < 85 := zz_bL_t (by omega) (by omega) h19
        refine Ev.run [(.iload_n 0, 1), (.bipush 60, 2)] (pc' := 27) (L' := [some (.int (nI m))]) (S' := [.int (nI 60), .int (nI m)]) rfl (by decide +kernel) rfl ?_
        refine Ev.icmp_lt (off := 7) (tgt := 34) (by decide +kernel) (by decide) (fun h27 => ?_) (fun h27 => ?_)
        · have h27 : m < 60 := zz_bL_t (by omega) (by omega) h27
          refine Ev.run [(.iconst 4, 1)] (pc' := 35) (L' := [some (.int (nI m))]) (S' := [.int (nI 4)]) rfl (by decide +kernel) rfl ?_
          exact Ev.iret rfl (by decide +kernel) (⟨by rw [bnd, if_neg (by omega), if_neg h11, if_neg (by omega), if_neg (by omega)], rfl⟩)
        · have h27 : m ≥ 60 := zz_bL_f (by omega) (by omega) h27
          refine Ev.run [(.iconst 3, 1)] (pc' := 31) (L' := [some (.int (nI m))]) (S' := [.int (nI 3)]) rfl (by decide +kernel) rfl ?_
          refine Ev.goto (off := 4) (tgt := 35) (by decide +kernel) (by decide) ?_
          exact Ev.iret rfl (by decide +kernel) (⟨by rw [bnd, if_neg (by omega), if_neg h11, if_neg (by omega), if_pos (by omega)], rfl⟩)
      · have h19 : m ≥ 85 := zz_bL_f (by omega) (by omega) h19
        refine Ev.run [(.iconst 2, 1)] (pc' := 23) (L' := [some (.int (nI m))]) (S' := [.int (nI 2)]) rfl (by decide +kernel) rfl ?_
        exact Ev.iret rfl (by decide +kernel) (⟨by rw [bnd, if_neg (by omega), if_neg h11, if_pos (by omega)], rfl⟩)
    · have h11 : m = 100 := zz_bE_t (by omega) (by omega) h11
      refine Ev.run [(.iconst 1, 1)] (pc' := 15) (L' := [some (.int (nI m))]) (S' := [.int (nI 1)]) rfl (by decide +kernel) rfl ?_
      exact Ev.iret rfl (by decide +kernel) (⟨by rw [bnd, if_neg (by omega), if_pos h11], rfl⟩)
  · have h3 : m > 100 := zz_bG'_f (by omega) (by omega) h3
    refine Ev.run [(.iconst 0, 1)] (pc' := 7) (L' := [some (.int (nI m))]) (S' := [.int (nI 0)]) rfl (by decide +kernel) rfl ?_
    exact Ev.iret rfl (by decide +kernel) (⟨by rw [bnd, if_pos (by omega)], rfl⟩)

set_option maxRecDepth 100000 in
set_option maxHeartbeats 4000000 in
theorem c_X3_bandFound_n {sc : Nat × (Nat → Int32)} {d : Nat} (I : Nat → Nat → Int32) (J : Nat → Nat → Int64) (A : zA) (hC : CR 3 I A) (hW : WF A) (k : Nat) (hk : k < aM A) (hx : fnd A k (aN A) = none) : EvM sc (d + 1) 0 0 mX3_bandFound [.ref 3, .int (nI k)] (zz_SH, I, J) (zz_is (.int (nI (bfd A k))) (zz_SH, I, J)) := by
  have w1 := hW.1.1
  have w2 := hW.1.2.1
  refine EvM.of (by decide) rfl (Nat.le_of_ble_eq_true rfl) ?_
  show Ev _ _ _ _ _ 0 [some (.ref 3), some (.int (nI k)), none] [] (zz_SH, I, J) _
  refine Ev.run [(.aload_n 0, 1), (.iload_n 1, 1)] (pc' := 2) (L' := [some (.ref 3), some (.int (nI k)), none]) (S' := [.int (nI k), .ref 3]) rfl (by decide +kernel) rfl ?_
  refine Ev.callV0 mX2_bestFor [.int (nI k)] [] _ rfl lk_RX3_40 (by decide +kernel) (rfl) rfl rfl rfl (Nat.le_of_ble_eq_true rfl) (c_X2_bestFor I J A hC hW k hk) ?_
  rintro _ _ ⟨rfl, rfl⟩
  rw [hx]
  show Ev _ _ _ _ _ 5 [some (.ref 3), some (.int (nI k)), none] [.int ((-6))] (zz_SH, I, J) _
  refine Ev.run [(.istore_n 2, 1), (.iload_n 2, 1), (.bipush (-6), 2)] (pc' := 9) (L' := [some (.ref 3), some (.int (nI k)), some (.int ((-6)))]) (S' := [.int ((-6)), .int ((-6))]) rfl (by decide +kernel) rfl ?_
  refine Ev.icmp_ne (off := 7) (tgt := 16) (by decide +kernel) (by decide) (fun h9 => absurd rfl h9) (fun h9 => ?_)
  refine Ev.run [(.iconst 4, 1)] (pc' := 13) (L' := [some (.ref 3), some (.int (nI k)), some (.int ((-6)))]) (S' := [.int (nI 4)]) rfl (by decide +kernel) rfl ?_
  refine Ev.goto (off := 14) (tgt := 27) (by decide +kernel) (by decide) ?_
  exact Ev.iret rfl (by decide +kernel) (⟨by rw [bfd, hx], rfl⟩)

set_option maxRecDepth 100000 in
set_option maxHeartbeats 4000000 in
theorem c_X3_bandFound_s {sc : Nat × (Nat → Int32)} {d : Nat} (I : Nat → Nat → Int32) (J : Nat → Nat → Int64) (A : zA) (hC : CR 3 I A) (hW : WF A) (k : Nat) (hk : k < aM A) (p v : Nat) (hx : fnd A k (aN A) = some (p, v)) : EvM sc (d + 1) 0 0 mX3_bandFound [.ref 3, .int (nI k)] (zz_SH, I, J) (zz_is (.int (nI (bfd A k))) (zz_SH, I, J)) := by
  have w1 := hW.1.1
  have w2 := hW.1.2.1
  obtain ⟨hp1, hp2⟩ := fnd_ok A k _ p v hx
  have b1 := mtc_le A k p
  refine EvM.of (by decide) rfl (Nat.le_of_ble_eq_true rfl) ?_
  show Ev _ _ _ _ _ 0 [some (.ref 3), some (.int (nI k)), none] [] (zz_SH, I, J) _
  refine Ev.run [(.aload_n 0, 1), (.iload_n 1, 1)] (pc' := 2) (L' := [some (.ref 3), some (.int (nI k)), none]) (S' := [.int (nI k), .ref 3]) rfl (by decide +kernel) rfl ?_
  refine Ev.callV0 mX2_bestFor [.int (nI k)] [] _ rfl lk_RX3_40 (by decide +kernel) (rfl) rfl rfl rfl (Nat.le_of_ble_eq_true rfl) (c_X2_bestFor I J A hC hW k hk) ?_
  rintro _ _ ⟨rfl, rfl⟩
  rw [hx]
  show Ev _ _ _ _ _ 5 [some (.ref 3), some (.int (nI k)), none] [.int (nI p)] (zz_SH, I, J) _
  refine Ev.run [(.istore_n 2, 1), (.iload_n 2, 1), (.bipush (-6), 2)] (pc' := 9) (L' := [some (.ref 3), some (.int (nI k)), some (.int (nI p))]) (S' := [.int ((-6)), .int (nI p)]) rfl (by decide +kernel) rfl ?_
  refine Ev.icmp_ne (off := 7) (tgt := 16) (by decide +kernel) (by decide) (fun h9 => ?_) (fun h9 => absurd h9 (fo_ne (by omega) hx))
  refine Ev.run [(.aload_n 0, 1), (.getfield 46, 3), (.iload_n 1, 1)] (pc' := 21) (L' := [some (.ref 3), some (.int (nI k)), some (.int (nI p))]) (S' := [.int (nI k), .ref 8]) rfl (by decide +kernel) rfl ?_
  refine Ev.aald k (by decide +kernel) (rfl) (by decide) (rfl) (by omega) (by first | decide | omega) (zz_b9 k (by omega)) ?_
  refine Ev.run [(.iload_n 2, 1)] (pc' := 23) (L' := [some (.ref 3), some (.int (nI k)), some (.int (nI p))]) (S' := [.int (nI p), .ref (9 + k)]) rfl (by decide +kernel) rfl ?_
  refine Ev.iald p (by decide +kernel) (zz_s9 k (by omega)) (rfl) (by omega) (by first | decide | omega) ?_
  dsimp only
  rw [show I (9 + k) p = nI (mtc A k p) from (hC.2.1 k hk).1 p hp1]
  refine Ev.callS0 mX3_bandOf [.int (nI (mtc A k p))] [] _ rfl lk_RX3_49 (by decide +kernel) rfl (Nat.le_of_ble_eq_true rfl) (c_X3_bandOf I J (mtc A k p) (by omega)) ?_
  rintro _ _ ⟨rfl, rfl⟩
  show Ev _ _ _ _ _ 27 [some (.ref 3), some (.int (nI k)), some (.int (nI p))] [.int (nI (bnd (mtc A k p)))] (zz_SH, I, J) _
  exact Ev.iret rfl (by decide +kernel) (⟨by rw [bfd, hx, hp2], rfl⟩)

theorem c_X3_bandFound {sc : Nat × (Nat → Int32)} {d : Nat} (I : Nat → Nat → Int32) (J : Nat → Nat → Int64) (A : zA) (hC : CR 3 I A) (hW : WF A) (k : Nat) (hk : k < aM A) : EvM sc (d + 1) 0 0 mX3_bandFound [.ref 3, .int (nI k)] (zz_SH, I, J) (zz_is (.int (nI (bfd A k))) (zz_SH, I, J)) := by
  cases hx : fnd A k (aN A) with
  | none => exact c_X3_bandFound_n I J A hC hW k hk hx
  | some y => exact c_X3_bandFound_s I J A hC hW k hk y.1 y.2 hx

set_option maxRecDepth 100000 in
set_option maxHeartbeats 4000000 in
theorem c_X3_ofSentence {sc : Nat × (Nat → Int32)} {d : Nat} (I : Nat → Nat → Int32) (J : Nat → Nat → Int64) (A : zA) (hC : CR 3 I A) (hW : WF A) (k : Nat) (hk : k < aM A) : EvM sc (d + 2) 0 0 mX3_ofSentence [.ref 3, .int (nI k)] (zz_SH, I, J) (zz_is (.int (nI (prc A k))) (zz_SH, I, J)) := by
  have w1 := hW.1.1
  have w2 := hW.1.2.1
  refine EvM.of (by decide) rfl (Nat.le_of_ble_eq_true rfl) ?_
  show Ev _ _ _ _ _ 0 [some (.ref 3), some (.int (nI k)), none] [] (zz_SH, I, J) _
  refine Ev.run [(.aload_n 0, 1), (.iload_n 1, 1)] (pc' := 2) (L' := [some (.ref 3), some (.int (nI k)), none]) (S' := [.int (nI k), .ref 3]) rfl (by decide +kernel) rfl ?_
  refine Ev.callS0 mX3_bandFound [.ref 3, .int (nI k)] [] _ rfl lk_RX3_52 (by decide +kernel) rfl (Nat.le_of_ble_eq_true rfl) (c_X3_bandFound I J A hC hW k hk) ?_
  rintro _ _ ⟨rfl, rfl⟩
  have b5 := bfd_lt A k
  show Ev _ _ _ _ _ 5 [some (.ref 3), some (.int (nI k)), none] [.int (nI (bfd A k))] (zz_SH, I, J) _
  refine Ev.run [(.istore_n 2, 1), (.aload_n 0, 1), (.getfield 56, 3), (.iload_n 1, 1)] (pc' := 11) (L' := [some (.ref 3), some (.int (nI k)), some (.int (nI (bfd A k)))]) (S' := [.int (nI k), .ref 7]) rfl (by decide +kernel) rfl ?_
  refine Ev.aald k (by decide +kernel) (rfl) (by decide) (rfl) (by omega) (by first | decide | omega) (zz_a84 k (by omega)) ?_
  refine Ev.getf (idx := 60) (x := none) (v := .int (I (84 + 2 * k) 1)) rfl rfl (by decide +kernel) ((zz_r84 k (by omega)).1) rfl rfl ?_
  rw [show I (84 + 2 * k) 1 = nI (tz A k) from (hC.1.2.2.1 k hk).1]
  refine Ev.run [(.aload_n 0, 1), (.getfield 64, 3), (.iload_n 2, 1)] (pc' := 20) (L' := [some (.ref 3), some (.int (nI k)), some (.int (nI (bfd A k)))]) (S' := [.int (nI (bfd A k)), .ref 30, .int (nI (tz A k))]) rfl (by decide +kernel) rfl ?_
  refine Ev.iald (bfd A k) (by decide +kernel) (rfl) (rfl) (by omega) (by first | decide | omega) ?_
  dsimp only
  rw [show I 30 (bfd A k) = nI (rt A (bfd A k)) from hC.1.2.2.2.1 _ b5]
  refine Ev.run [(.imul, 1)] (pc' := 22) (L' := [some (.ref 3), some (.int (nI k)), some (.int (nI (bfd A k)))]) (S' := [.int (nI (tz A k) * nI (rt A (bfd A k)))]) rfl (by decide +kernel) rfl ?_
  rw [pk_mul (tz A k) (rt A (bfd A k))]
  exact Ev.iret rfl (by decide +kernel) (⟨rfl, rfl⟩)

set_option maxRecDepth 100000 in
set_option maxHeartbeats 4000000 in
theorem l_X3_ofText {sc : Nat × (Nat → Int32)} {d : Nat} (I : Nat → Nat → Int32) (J : Nat → Nat → Int64) (A : zA) (hC : CR 3 I A) (hW : WF A) : ∀ (μ : Nat) (i : Nat), aM A - i < μ → (i ≤ aM A) →  Ev sc (d + 3) 0 0 mX3_ofText 4 [some (.ref 3), some (.int (nI (prs A i))), some (.int (nI i))] [] (zz_SH, I, J) (zz_is (.int (nI (prs A (aM A)))) (zz_SH, I, J)) := by
  intro μ
  induction μ with
  | zero => intro i hμ; exact absurd hμ (Nat.not_lt_zero _)
  | succ μ ih =>
    intro i hμ hi
    have w1 := hW.1.1
    have w2 := hW.1.2.1
    refine Ev.run [(.iload_n 2, 1), (.aload_n 0, 1), (.getfield 67, 3)] (pc' := 9) (L' := [some (.ref 3), some (.int (nI (prs A i))), some (.int (nI i))]) (S' := [.int (I 3 11), .int (nI i)]) rfl (by decide +kernel) rfl ?_
    rw [show I 3 11 = nI (aM A) from hC.1.1.2]
    refine Ev.icmp_ge (off := 17) (tgt := 26) (by decide +kernel) (by decide) (fun h9 => ?_) (fun h9 => ?_)
    · have h9 : i ≥ (aM A) := zz_bG_t (by omega) (by omega) h9
      have hiM : aM A = i := by omega
      refine Ev.run [(.iload_n 1, 1)] (pc' := 27) (L' := [some (.ref 3), some (.int (nI (prs A i))), some (.int (nI i))]) (S' := [.int (nI (prs A i))]) rfl (by decide +kernel) rfl ?_
      exact Ev.iret rfl (by decide +kernel) (⟨by rw [hiM], rfl⟩)
    · have h9 : i < (aM A) := zz_bG_f (by omega) (by omega) h9
      refine Ev.run [(.iload_n 1, 1), (.aload_n 0, 1), (.iload_n 2, 1)] (pc' := 15) (L' := [some (.ref 3), some (.int (nI (prs A i))), some (.int (nI i))]) (S' := [.int (nI i), .ref 3, .int (nI (prs A i))]) rfl (by decide +kernel) rfl ?_
      refine Ev.callS0 mX3_ofSentence [.ref 3, .int (nI i)] [.int (nI (prs A i))] _ rfl lk_RX3_70 (by decide +kernel) rfl (Nat.le_of_ble_eq_true rfl) (c_X3_ofSentence I J A hC hW i (by omega)) ?_
      rintro _ _ ⟨rfl, rfl⟩
      show Ev _ _ _ _ _ 18 [some (.ref 3), some (.int (nI (prs A i))), some (.int (nI i))] [.int (nI (prc A i)), .int (nI (prs A i))] (zz_SH, I, J) _
      refine Ev.run [(.iadd, 1)] (pc' := 19) (L' := [some (.ref 3), some (.int (nI (prs A i))), some (.int (nI i))]) (S' := [.int (nI (prs A i) + nI (prc A i))]) rfl (by decide +kernel) rfl ?_
      rw [nI_add (prs A i) (prc A i)]
      refine Ev.run [(.istore_n 1, 1), (.iinc 2 1, 3)] (pc' := 23) (L' := [some (.ref 3), some (.int (nI ((prs A i) + (prc A i)))), some (.int (nI i + 1))]) (S' := []) rfl (by decide +kernel) rfl ?_
      rw [nI_1 i]
      refine Ev.goto (off := (-19)) (tgt := 4) (by decide +kernel) (by decide) ?_
      exact ih (i + 1) (by omega) (by omega)

set_option maxRecDepth 100000 in
set_option maxHeartbeats 4000000 in
theorem c_X3_ofText {sc : Nat × (Nat → Int32)} {d : Nat} (I : Nat → Nat → Int32) (J : Nat → Nat → Int64) (A : zA) (hC : CR 3 I A) (hW : WF A) : EvM sc (d + 3) 0 0 mX3_ofText [.ref 3] (zz_SH, I, J) (zz_is (.int (nI (prs A (aM A)))) (zz_SH, I, J)) := by
  have w1 := hW.1.1
  have w2 := hW.1.2.1
  refine EvM.of (by decide) rfl (Nat.le_of_ble_eq_true rfl) ?_
  show Ev _ _ _ _ _ 0 [some (.ref 3), none, none] [] (zz_SH, I, J) _
  refine Ev.run [(.iconst 0, 1), (.istore_n 1, 1), (.iconst 0, 1), (.istore_n 2, 1)] (pc' := 4) (L' := [some (.ref 3), some (.int (nI 0)), some (.int (nI 0))]) (S' := []) rfl (by decide +kernel) rfl ?_
  exact l_X3_ofText I J A hC hW (aM A + 1) 0 (by omega) (by omega)

set_option maxRecDepth 100000 in
set_option maxHeartbeats 4000000 in
theorem c_X6_price_in {sc : Nat × (Nat → Int32)} {d : Nat} (I : Nat → Nat → Int32) (J : Nat → Nat → Int64) (A : zA) (hC : CR 3 I A) (hW : WF A) (k : Nat) (hk : k < aM A) : EvM sc (d + 4) 0 0 mX6_price [.ref 0, .int (nI k)] (zz_SH, I, J) (zz_is (.int (nI (prc A k))) (zz_SH, I, J)) := by
  have w1 := hW.1.1
  have w2 := hW.1.2.1
  refine EvM.of (by decide) rfl (Nat.le_of_ble_eq_true rfl) ?_
  show Ev _ _ _ _ _ 0 [some (.ref 0), some (.int (nI k))] [] (zz_SH, I, J) _
  refine Ev.run [(.iload_n 1, 1), (.iconst (-1), 1)] (pc' := 2) (L' := [some (.ref 0), some (.int (nI k))]) (S' := [.int ((-1)), .int (nI k)]) rfl (by decide +kernel) rfl ?_
  refine Ev.icmp_ne (off := 11) (tgt := 13) (by decide +kernel) (by decide) (fun h2 => ?_) (fun h2 => absurd h2 (zz_nm k (by omega)))
  refine Ev.run [(.aload_n 0, 1), (.getfield 21, 3), (.iload_n 1, 1)] (pc' := 18) (L' := [some (.ref 0), some (.int (nI k))]) (S' := [.int (nI k), .ref 3]) rfl (by decide +kernel) rfl ?_
  refine Ev.callV0 mX2_isSentence [.int (nI k)] [] _ rfl lk_RX6_118 (by decide +kernel) (rfl) rfl rfl rfl (Nat.le_of_ble_eq_true rfl) (c_X2_isSentence I J (aM A) (nI k) hC.1.1.2 hW.1.2.1) ?_
  rintro _ _ ⟨rfl, ⟨rfl, h18⟩ | ⟨rfl, h18⟩⟩
  · show Ev _ _ _ _ _ 21 [some (.ref 0), some (.int (nI k))] [.int (nI 1)] (zz_SH, I, J) _
    refine Ev.if_eq (off := 14) (tgt := 35) (by decide +kernel) (by decide) (fun h21 => absurd h21 (by decide)) (fun h21 => ?_)
    refine Ev.run [(.aload_n 0, 1), (.getfield 21, 3), (.iload_n 1, 1)] (pc' := 29) (L' := [some (.ref 0), some (.int (nI k))]) (S' := [.int (nI k), .ref 3]) rfl (by decide +kernel) rfl ?_
    refine Ev.callS0 mX3_ofSentence [.ref 3, .int (nI k)] [] _ rfl lk_RX6_150 (by decide +kernel) rfl (Nat.le_of_ble_eq_true rfl) (c_X3_ofSentence I J A hC hW k hk) ?_
    rintro _ _ ⟨rfl, rfl⟩
    show Ev _ _ _ _ _ 32 [some (.ref 0), some (.int (nI k))] [.int (nI (prc A k))] (zz_SH, I, J) _
    refine Ev.goto (off := 4) (tgt := 36) (by decide +kernel) (by decide) ?_
    exact Ev.iret rfl (by decide +kernel) (⟨rfl, rfl⟩)
  · exact absurd ⟨k, hk, rfl⟩ h18

set_option maxRecDepth 100000 in
set_option maxHeartbeats 4000000 in
theorem c_X6_price_out {sc : Nat × (Nat → Int32)} {d : Nat} (I : Nat → Nat → Int32) (J : Nat → Nat → Int64) (A : zA) (hC : CR 3 I A) (hW : WF A) (x : Int32) (hx1 : ¬ x = (-1)) (hx2 : ¬ zz_ix x (aM A)) : EvM sc (d + 4) 0 0 mX6_price [.ref 0, .int x] (zz_SH, I, J) (zz_is (.int (-1)) (zz_SH, I, J)) := by
  have w1 := hW.1.1
  have w2 := hW.1.2.1
  refine EvM.of (by decide) rfl (Nat.le_of_ble_eq_true rfl) ?_
  show Ev _ _ _ _ _ 0 [some (.ref 0), some (.int x)] [] (zz_SH, I, J) _
  refine Ev.run [(.iload_n 1, 1), (.iconst (-1), 1)] (pc' := 2) (L' := [some (.ref 0), some (.int x)]) (S' := [.int ((-1)), .int x]) rfl (by decide +kernel) rfl ?_
  refine Ev.icmp_ne (off := 11) (tgt := 13) (by decide +kernel) (by decide) (fun h2 => ?_) (fun h2 => absurd h2 hx1)
  refine Ev.run [(.aload_n 0, 1), (.getfield 21, 3), (.iload_n 1, 1)] (pc' := 18) (L' := [some (.ref 0), some (.int x)]) (S' := [.int x, .ref 3]) rfl (by decide +kernel) rfl ?_
  refine Ev.callV0 mX2_isSentence [.int x] [] _ rfl lk_RX6_118 (by decide +kernel) (rfl) rfl rfl rfl (Nat.le_of_ble_eq_true rfl) (c_X2_isSentence I J (aM A) x hC.1.1.2 hW.1.2.1) ?_
  rintro _ _ ⟨rfl, ⟨rfl, h18⟩ | ⟨rfl, h18⟩⟩
  · exact absurd h18 hx2
  · show Ev _ _ _ _ _ 21 [some (.ref 0), some (.int x)] [.int (nI 0)] (zz_SH, I, J) _
    refine Ev.if_eq (off := 14) (tgt := 35) (by decide +kernel) (by decide) (fun h21 => ?_) (fun h21 => absurd h21 (by decide))
    refine Ev.run [(.iconst (-1), 1)] (pc' := 36) (L' := [some (.ref 0), some (.int x)]) (S' := [.int ((-1))]) rfl (by decide +kernel) rfl ?_
    exact Ev.iret rfl (by decide +kernel) (⟨rfl, rfl⟩)

set_option maxRecDepth 100000 in
set_option maxHeartbeats 4000000 in
theorem c_X6_price_all {sc : Nat × (Nat → Int32)} {d : Nat} (I : Nat → Nat → Int32) (J : Nat → Nat → Int64) (A : zA) (hC : CR 3 I A) (hW : WF A) : EvM sc (d + 4) 0 0 mX6_price [.ref 0, .int ((-1))] (zz_SH, I, J) (zz_is (.int (nI (prs A (aM A)))) (zz_SH, I, J)) := by
  have w1 := hW.1.1
  have w2 := hW.1.2.1
  refine EvM.of (by decide) rfl (Nat.le_of_ble_eq_true rfl) ?_
  show Ev _ _ _ _ _ 0 [some (.ref 0), some (.int ((-1)))] [] (zz_SH, I, J) _
  refine Ev.run [(.iload_n 1, 1), (.iconst (-1), 1)] (pc' := 2) (L' := [some (.ref 0), some (.int ((-1)))]) (S' := [.int ((-1)), .int ((-1))]) rfl (by decide +kernel) rfl ?_
  refine Ev.icmp_ne (off := 11) (tgt := 13) (by decide +kernel) (by decide) (fun h2 => absurd h2 (by decide)) (fun h2 => ?_)
  refine Ev.run [(.aload_n 0, 1), (.getfield 21, 3)] (pc' := 9) (L' := [some (.ref 0), some (.int ((-1)))]) (S' := [.ref 3]) rfl (by decide +kernel) rfl ?_
  refine Ev.callS0 mX3_ofText [.ref 3] [] _ rfl lk_RX6_146 (by decide +kernel) rfl (Nat.le_of_ble_eq_true rfl) (c_X3_ofText I J A hC hW) ?_
  rintro _ _ ⟨rfl, rfl⟩
  show Ev _ _ _ _ _ 12 [some (.ref 0), some (.int ((-1)))] [.int (nI (prs A (aM A)))] (zz_SH, I, J) _
  exact Ev.iret rfl (by decide +kernel) (⟨rfl, rfl⟩)

set_option maxRecDepth 100000 in
set_option maxHeartbeats 4000000 in
theorem c_X6_far_in {sc : Nat × (Nat → Int32)} {d : Nat} (I : Nat → Nat → Int32) (J : Nat → Nat → Int64) (A : zA) (hC : CR 3 I A) (hW : WF A) (k o : Nat) (hk : k < aM A) (ho : o < aM A) : EvM sc (d + 3) 0 0 mX6_far [.ref 0, .int (nI k), .int (nI o)] (zz_SH, I, J) (fun r σ => r = some (.int (nI (DD (tt A k) (tt A o) (tz A k) (tz A o)))) ∧ ∃ I' : Nat → Nat → Int32, zCq I I' ∧ σ = (zz_SH, I', J)) := by
  have w1 := hW.1.1
  have w2 := hW.1.2.1
  refine EvM.of (by decide) rfl (Nat.le_of_ble_eq_true rfl) ?_
  show Ev _ _ _ _ _ 0 [some (.ref 0), some (.int (nI k)), some (.int (nI o))] [] (zz_SH, I, J) _
  refine Ev.run [(.aload_n 0, 1), (.getfield 21, 3), (.iload_n 1, 1)] (pc' := 5) (L' := [some (.ref 0), some (.int (nI k)), some (.int (nI o))]) (S' := [.int (nI k), .ref 3]) rfl (by decide +kernel) rfl ?_
  refine Ev.callV0 mX2_isSentence [.int (nI k)] [] _ rfl lk_RX6_118 (by decide +kernel) (rfl) rfl rfl rfl (Nat.le_of_ble_eq_true rfl) (c_X2_isSentence I J (aM A) (nI k) hC.1.1.2 hW.1.2.1) ?_
  rintro _ _ ⟨rfl, ⟨rfl, h5⟩ | ⟨rfl, h5⟩⟩
  · show Ev _ _ _ _ _ 8 [some (.ref 0), some (.int (nI k)), some (.int (nI o))] [.int (nI 1)] (zz_SH, I, J) _
    refine Ev.if_eq (off := 14) (tgt := 22) (by decide +kernel) (by decide) (fun h8 => absurd h8 (by decide)) (fun h8 => ?_)
    refine Ev.run [(.aload_n 0, 1), (.getfield 21, 3), (.iload_n 2, 1)] (pc' := 16) (L' := [some (.ref 0), some (.int (nI k)), some (.int (nI o))]) (S' := [.int (nI o), .ref 3]) rfl (by decide +kernel) rfl ?_
    refine Ev.callV0 mX2_isSentence [.int (nI o)] [] _ rfl lk_RX6_118 (by decide +kernel) (rfl) rfl rfl rfl (Nat.le_of_ble_eq_true rfl) (c_X2_isSentence I J (aM A) (nI o) hC.1.1.2 hW.1.2.1) ?_
    rintro _ _ ⟨rfl, ⟨rfl, h16⟩ | ⟨rfl, h16⟩⟩
    · show Ev _ _ _ _ _ 19 [some (.ref 0), some (.int (nI k)), some (.int (nI o))] [.int (nI 1)] (zz_SH, I, J) _
      refine Ev.if_ne (off := 5) (tgt := 24) (by decide +kernel) (by decide) (fun h19 => ?_) (fun h19 => absurd h19 (by decide))
      refine Ev.run [(.aload_n 0, 1), (.getfield 36, 3), (.aload_n 0, 1), (.getfield 21, 3), (.getfield 101, 3), (.iload_n 1, 1)] (pc' := 36) (L' := [some (.ref 0), some (.int (nI k)), some (.int (nI o))]) (S' := [.int (nI k), .ref 7, .ref 308]) rfl (by decide +kernel) rfl ?_
      refine Ev.aald k (by decide +kernel) (rfl) (by decide) (rfl) (by omega) (by first | decide | omega) (zz_a84 k (by omega)) ?_
      refine Ev.run [(.aload_n 0, 1), (.getfield 21, 3), (.getfield 101, 3), (.iload_n 2, 1)] (pc' := 45) (L' := [some (.ref 0), some (.int (nI k)), some (.int (nI o))]) (S' := [.int (nI o), .ref 7, .ref (84 + 2 * k), .ref 308]) rfl (by decide +kernel) rfl ?_
      refine Ev.aald o (by decide +kernel) (rfl) (by decide) (rfl) (by omega) (by first | decide | omega) (zz_a84 o (by omega)) ?_
      refine Ev.callV0 mX1_farOf [.ref (84 + 2 * k), .ref (84 + 2 * o)] [] _ rfl lk_RX6_121 (by decide +kernel) (rfl) rfl rfl rfl (Nat.le_of_ble_eq_true rfl) (c_X1_farOf I J (84 + 2 * k) (84 + 2 * o) (tz A k) (tz A o) (tt A k) (tt A o) (zz_r84 k (by omega)) (zz_r84 o (by omega)) (hC.1.2.2.1 k hk) (hC.1.2.2.1 o ho) (hW.2.2.1 k hk).1.2 (hW.2.2.1 o ho).1.2 (hW.tt hk) (hW.tt ho) (by omega) (by omega)) ?_
      rintro _ _ ⟨rfl, hh, rfl⟩
      show Ev _ _ _ _ _ 49 [some (.ref 0), some (.int (nI k)), some (.int (nI o))] [.int (nI (DD (tt A k) (tt A o) (tz A k) (tz A o)))] (zz_SH, zz_cs I 309 hh, J) _
      exact Ev.iret rfl (by decide +kernel) (⟨rfl, _, zCq.cs I 309 hh (by decide), rfl⟩)
    · exact absurd ⟨o, ho, rfl⟩ h16
  · exact absurd ⟨k, hk, rfl⟩ h5

set_option maxRecDepth 100000 in
set_option maxHeartbeats 4000000 in
theorem c_X6_far_out {sc : Nat × (Nat → Int32)} {d : Nat} (I : Nat → Nat → Int32) (J : Nat → Nat → Int64) (A : zA) (hC : CR 3 I A) (hW : WF A) (x y : Int32) (hxy : ¬ (zz_ix x (aM A) ∧ zz_ix y (aM A))) : EvM sc (d + 3) 0 0 mX6_far [.ref 0, .int x, .int y] (zz_SH, I, J) (zz_is (.int (-1)) (zz_SH, I, J)) := by
  have w1 := hW.1.1
  have w2 := hW.1.2.1
  refine EvM.of (by decide) rfl (Nat.le_of_ble_eq_true rfl) ?_
  show Ev _ _ _ _ _ 0 [some (.ref 0), some (.int x), some (.int y)] [] (zz_SH, I, J) _
  refine Ev.run [(.aload_n 0, 1), (.getfield 21, 3), (.iload_n 1, 1)] (pc' := 5) (L' := [some (.ref 0), some (.int x), some (.int y)]) (S' := [.int x, .ref 3]) rfl (by decide +kernel) rfl ?_
  refine Ev.callV0 mX2_isSentence [.int x] [] _ rfl lk_RX6_118 (by decide +kernel) (rfl) rfl rfl rfl (Nat.le_of_ble_eq_true rfl) (c_X2_isSentence I J (aM A) x hC.1.1.2 hW.1.2.1) ?_
  rintro _ _ ⟨rfl, ⟨rfl, h5⟩ | ⟨rfl, h5⟩⟩
  · show Ev _ _ _ _ _ 8 [some (.ref 0), some (.int x), some (.int y)] [.int (nI 1)] (zz_SH, I, J) _
    refine Ev.if_eq (off := 14) (tgt := 22) (by decide +kernel) (by decide) (fun h8 => absurd h8 (by decide)) (fun h8 => ?_)
    refine Ev.run [(.aload_n 0, 1), (.getfield 21, 3), (.iload_n 2, 1)] (pc' := 16) (L' := [some (.ref 0), some (.int x), some (.int y)]) (S' := [.int y, .ref 3]) rfl (by decide +kernel) rfl ?_
    refine Ev.callV0 mX2_isSentence [.int y] [] _ rfl lk_RX6_118 (by decide +kernel) (rfl) rfl rfl rfl (Nat.le_of_ble_eq_true rfl) (c_X2_isSentence I J (aM A) y hC.1.1.2 hW.1.2.1) ?_
    rintro _ _ ⟨rfl, ⟨rfl, h16⟩ | ⟨rfl, h16⟩⟩
    · exact absurd ⟨h5, h16⟩ hxy
    · show Ev _ _ _ _ _ 19 [some (.ref 0), some (.int x), some (.int y)] [.int (nI 0)] (zz_SH, I, J) _
      refine Ev.if_ne (off := 5) (tgt := 24) (by decide +kernel) (by decide) (fun h19 => absurd h19 (by decide)) (fun h19 => ?_)
      refine Ev.run [(.iconst (-1), 1)] (pc' := 23) (L' := [some (.ref 0), some (.int x), some (.int y)]) (S' := [.int ((-1))]) rfl (by decide +kernel) rfl ?_
      exact Ev.iret rfl (by decide +kernel) (⟨rfl, rfl⟩)
  · show Ev _ _ _ _ _ 8 [some (.ref 0), some (.int x), some (.int y)] [.int (nI 0)] (zz_SH, I, J) _
    refine Ev.if_eq (off := 14) (tgt := 22) (by decide +kernel) (by decide) (fun h8 => ?_) (fun h8 => absurd h8 (by decide))
    refine Ev.run [(.iconst (-1), 1)] (pc' := 23) (L' := [some (.ref 0), some (.int x), some (.int y)]) (S' := [.int ((-1))]) rfl (by decide +kernel) rfl ?_
    exact Ev.iret rfl (by decide +kernel) (⟨rfl, rfl⟩)

set_option maxRecDepth 100000 in
set_option maxHeartbeats 4000000 in
theorem c_X6_match_in {sc : Nat × (Nat → Int32)} {d : Nat} (I : Nat → Nat → Int32) (J : Nat → Nat → Int64) (A : zA) (hC : CR 3 I A) (hW : WF A) (k p : Nat) (hk : k < aM A) (hp : p < aN A) : EvM sc (d + 1) 0 0 mX6_match [.ref 0, .int (nI k), .int (nI p)] (zz_SH, I, J) (zz_is (.int (nI (mtc A k p))) (zz_SH, I, J)) := by
  have w1 := hW.1.1
  have w2 := hW.1.2.1
  refine EvM.of (by decide) rfl (Nat.le_of_ble_eq_true rfl) ?_
  show Ev _ _ _ _ _ 0 [some (.ref 0), some (.int (nI k)), some (.int (nI p))] [] (zz_SH, I, J) _
  refine Ev.run [(.aload_n 0, 1), (.getfield 21, 3), (.iload_n 1, 1)] (pc' := 5) (L' := [some (.ref 0), some (.int (nI k)), some (.int (nI p))]) (S' := [.int (nI k), .ref 3]) rfl (by decide +kernel) rfl ?_
  refine Ev.callV0 mX2_isSentence [.int (nI k)] [] _ rfl lk_RX6_118 (by decide +kernel) (rfl) rfl rfl rfl (Nat.le_of_ble_eq_true rfl) (c_X2_isSentence I J (aM A) (nI k) hC.1.1.2 hW.1.2.1) ?_
  rintro _ _ ⟨rfl, ⟨rfl, h5⟩ | ⟨rfl, h5⟩⟩
  · show Ev _ _ _ _ _ 8 [some (.ref 0), some (.int (nI k)), some (.int (nI p))] [.int (nI 1)] (zz_SH, I, J) _
    refine Ev.if_eq (off := 14) (tgt := 22) (by decide +kernel) (by decide) (fun h8 => absurd h8 (by decide)) (fun h8 => ?_)
    refine Ev.run [(.aload_n 0, 1), (.getfield 21, 3), (.iload_n 2, 1)] (pc' := 16) (L' := [some (.ref 0), some (.int (nI k)), some (.int (nI p))]) (S' := [.int (nI p), .ref 3]) rfl (by decide +kernel) rfl ?_
    refine Ev.callV0 mX2_isPair [.int (nI p)] [] _ rfl lk_RX6_69 (by decide +kernel) (rfl) rfl rfl rfl (Nat.le_of_ble_eq_true rfl) (c_X2_isPair I J (aN A) (nI p) hC.1.1.1 hW.1.1) ?_
    rintro _ _ ⟨rfl, ⟨rfl, h16⟩ | ⟨rfl, h16⟩⟩
    · show Ev _ _ _ _ _ 19 [some (.ref 0), some (.int (nI k)), some (.int (nI p))] [.int (nI 1)] (zz_SH, I, J) _
      refine Ev.if_ne (off := 5) (tgt := 24) (by decide +kernel) (by decide) (fun h19 => ?_) (fun h19 => absurd h19 (by decide))
      refine Ev.run [(.aload_n 0, 1), (.getfield 21, 3), (.getfield 125, 3), (.iload_n 1, 1)] (pc' := 32) (L' := [some (.ref 0), some (.int (nI k)), some (.int (nI p))]) (S' := [.int (nI k), .ref 8]) rfl (by decide +kernel) rfl ?_
      refine Ev.aald k (by decide +kernel) (rfl) (by decide) (rfl) (by omega) (by first | decide | omega) (zz_b9 k (by omega)) ?_
      refine Ev.run [(.iload_n 2, 1)] (pc' := 34) (L' := [some (.ref 0), some (.int (nI k)), some (.int (nI p))]) (S' := [.int (nI p), .ref (9 + k)]) rfl (by decide +kernel) rfl ?_
      refine Ev.iald p (by decide +kernel) (zz_s9 k (by omega)) (rfl) (by omega) (by first | decide | omega) ?_
      dsimp only
      rw [show I (9 + k) p = nI (mtc A k p) from (hC.2.1 k hk).1 p hp]
      exact Ev.iret rfl (by decide +kernel) (⟨rfl, rfl⟩)
    · exact absurd ⟨p, hp, rfl⟩ h16
  · exact absurd ⟨k, hk, rfl⟩ h5

set_option maxRecDepth 100000 in
set_option maxHeartbeats 4000000 in
theorem c_X6_match_out {sc : Nat × (Nat → Int32)} {d : Nat} (I : Nat → Nat → Int32) (J : Nat → Nat → Int64) (A : zA) (hC : CR 3 I A) (hW : WF A) (x y : Int32) (hxy : ¬ (zz_ix x (aM A) ∧ zz_ix y (aN A))) : EvM sc (d + 1) 0 0 mX6_match [.ref 0, .int x, .int y] (zz_SH, I, J) (zz_is (.int (-1)) (zz_SH, I, J)) := by
  have w1 := hW.1.1
  have w2 := hW.1.2.1
  refine EvM.of (by decide) rfl (Nat.le_of_ble_eq_true rfl) ?_
  show Ev _ _ _ _ _ 0 [some (.ref 0), some (.int x), some (.int y)] [] (zz_SH, I, J) _
  refine Ev.run [(.aload_n 0, 1), (.getfield 21, 3), (.iload_n 1, 1)] (pc' := 5) (L' := [some (.ref 0), some (.int x), some (.int y)]) (S' := [.int x, .ref 3]) rfl (by decide +kernel) rfl ?_
  refine Ev.callV0 mX2_isSentence [.int x] [] _ rfl lk_RX6_118 (by decide +kernel) (rfl) rfl rfl rfl (Nat.le_of_ble_eq_true rfl) (c_X2_isSentence I J (aM A) x hC.1.1.2 hW.1.2.1) ?_
  rintro _ _ ⟨rfl, ⟨rfl, h5⟩ | ⟨rfl, h5⟩⟩
  · show Ev _ _ _ _ _ 8 [some (.ref 0), some (.int x), some (.int y)] [.int (nI 1)] (zz_SH, I, J) _
    refine Ev.if_eq (off := 14) (tgt := 22) (by decide +kernel) (by decide) (fun h8 => absurd h8 (by decide)) (fun h8 => ?_)
    refine Ev.run [(.aload_n 0, 1), (.getfield 21, 3), (.iload_n 2, 1)] (pc' := 16) (L' := [some (.ref 0), some (.int x), some (.int y)]) (S' := [.int y, .ref 3]) rfl (by decide +kernel) rfl ?_
    refine Ev.callV0 mX2_isPair [.int y] [] _ rfl lk_RX6_69 (by decide +kernel) (rfl) rfl rfl rfl (Nat.le_of_ble_eq_true rfl) (c_X2_isPair I J (aN A) y hC.1.1.1 hW.1.1) ?_
    rintro _ _ ⟨rfl, ⟨rfl, h16⟩ | ⟨rfl, h16⟩⟩
    · exact absurd ⟨h5, h16⟩ hxy
    · show Ev _ _ _ _ _ 19 [some (.ref 0), some (.int x), some (.int y)] [.int (nI 0)] (zz_SH, I, J) _
      refine Ev.if_ne (off := 5) (tgt := 24) (by decide +kernel) (by decide) (fun h19 => absurd h19 (by decide)) (fun h19 => ?_)
      refine Ev.run [(.iconst (-1), 1)] (pc' := 23) (L' := [some (.ref 0), some (.int x), some (.int y)]) (S' := [.int ((-1))]) rfl (by decide +kernel) rfl ?_
      exact Ev.iret rfl (by decide +kernel) (⟨rfl, rfl⟩)
  · show Ev _ _ _ _ _ 8 [some (.ref 0), some (.int x), some (.int y)] [.int (nI 0)] (zz_SH, I, J) _
    refine Ev.if_eq (off := 14) (tgt := 22) (by decide +kernel) (by decide) (fun h8 => ?_) (fun h8 => absurd h8 (by decide))
    refine Ev.run [(.iconst (-1), 1)] (pc' := 23) (L' := [some (.ref 0), some (.int x), some (.int y)]) (S' := [.int ((-1))]) rfl (by decide +kernel) rfl ?_
    exact Ev.iret rfl (by decide +kernel) (⟨rfl, rfl⟩)

set_option maxRecDepth 100000 in
set_option maxHeartbeats 4000000 in
theorem c_X6_found_u {sc : Nat × (Nat → Int32)} {d : Nat} (I : Nat → Nat → Int32) (J : Nat → Nat → Int64) (A : zA) (hC : CR 3 I A) (hW : WF A) (x y : Int32) (hx2 : ¬ zz_ix x (aM A)) : EvM sc (d + 1) 0 0 mX6_found [.ref 0, .int x, .int y] (zz_SH, I, J) (zz_is (.int (-1)) (zz_SH, I, J)) := by
  have w1 := hW.1.1
  have w2 := hW.1.2.1
  refine EvM.of (by decide) rfl (Nat.le_of_ble_eq_true rfl) ?_
  show Ev _ _ _ _ _ 0 [some (.ref 0), some (.int x), some (.int y), none] [] (zz_SH, I, J) _
  refine Ev.run [(.aload_n 0, 1), (.getfield 21, 3), (.iload_n 1, 1)] (pc' := 5) (L' := [some (.ref 0), some (.int x), some (.int y), none]) (S' := [.int x, .ref 3]) rfl (by decide +kernel) rfl ?_
  refine Ev.callV0 mX2_isSentence [.int x] [] _ rfl lk_RX6_118 (by decide +kernel) (rfl) rfl rfl rfl (Nat.le_of_ble_eq_true rfl) (c_X2_isSentence I J (aM A) x hC.1.1.2 hW.1.2.1) ?_
  rintro _ _ ⟨rfl, ⟨rfl, h5⟩ | ⟨rfl, h5⟩⟩
  · exact absurd h5 hx2
  · show Ev _ _ _ _ _ 8 [some (.ref 0), some (.int x), some (.int y), none] [.int (nI 0)] (zz_SH, I, J) _
    refine Ev.if_ne (off := 5) (tgt := 13) (by decide +kernel) (by decide) (fun h8 => absurd h8 (by decide)) (fun h8 => ?_)
    refine Ev.run [(.iconst (-1), 1)] (pc' := 12) (L' := [some (.ref 0), some (.int x), some (.int y), none]) (S' := [.int ((-1))]) rfl (by decide +kernel) rfl ?_
    exact Ev.iret rfl (by decide +kernel) (⟨rfl, rfl⟩)

set_option maxRecDepth 100000 in
set_option maxHeartbeats 4000000 in
theorem c_X6_found_o {sc : Nat × (Nat → Int32)} {d : Nat} (I : Nat → Nat → Int32) (J : Nat → Nat → Int64) (A : zA) (hC : CR 3 I A) (hW : WF A) (k : Nat) (hk : k < aM A) (y : Int32) (hy : ¬ zz_ix y 2) : EvM sc (d + 1) 0 0 mX6_found [.ref 0, .int (nI k), .int y] (zz_SH, I, J) (zz_is (.int (-2)) (zz_SH, I, J)) := by
  have w1 := hW.1.1
  have w2 := hW.1.2.1
  refine EvM.of (by decide) rfl (Nat.le_of_ble_eq_true rfl) ?_
  show Ev _ _ _ _ _ 0 [some (.ref 0), some (.int (nI k)), some (.int y), none] [] (zz_SH, I, J) _
  refine Ev.run [(.aload_n 0, 1), (.getfield 21, 3), (.iload_n 1, 1)] (pc' := 5) (L' := [some (.ref 0), some (.int (nI k)), some (.int y), none]) (S' := [.int (nI k), .ref 3]) rfl (by decide +kernel) rfl ?_
  refine Ev.callV0 mX2_isSentence [.int (nI k)] [] _ rfl lk_RX6_118 (by decide +kernel) (rfl) rfl rfl rfl (Nat.le_of_ble_eq_true rfl) (c_X2_isSentence I J (aM A) (nI k) hC.1.1.2 hW.1.2.1) ?_
  rintro _ _ ⟨rfl, ⟨rfl, h5⟩ | ⟨rfl, h5⟩⟩
  · show Ev _ _ _ _ _ 8 [some (.ref 0), some (.int (nI k)), some (.int y), none] [.int (nI 1)] (zz_SH, I, J) _
    refine Ev.if_ne (off := 5) (tgt := 13) (by decide +kernel) (by decide) (fun h8 => ?_) (fun h8 => absurd h8 (by decide))
    refine Ev.run [(.iload_n 2, 1)] (pc' := 14) (L' := [some (.ref 0), some (.int (nI k)), some (.int y), none]) (S' := [.int y]) rfl (by decide +kernel) rfl ?_
    refine Ev.if_eq (off := 11) (tgt := 25) (by decide +kernel) (by decide) (fun h14 => ?_) (fun h14 => ?_)
    · exact absurd ⟨0, by decide, h14⟩ hy
    · refine Ev.run [(.iload_n 2, 1), (.iconst 1, 1)] (pc' := 19) (L' := [some (.ref 0), some (.int (nI k)), some (.int y), none]) (S' := [.int (nI 1), .int y]) rfl (by decide +kernel) rfl ?_
      refine Ev.icmp_eq (off := 6) (tgt := 25) (by decide +kernel) (by decide) (fun h19 => ?_) (fun h19 => ?_)
      · exact absurd ⟨1, by decide, h19⟩ hy
      · refine Ev.run [(.bipush (-2), 2)] (pc' := 24) (L' := [some (.ref 0), some (.int (nI k)), some (.int y), none]) (S' := [.int ((-2))]) rfl (by decide +kernel) rfl ?_
        exact Ev.iret rfl (by decide +kernel) (⟨rfl, rfl⟩)
  · exact absurd ⟨k, hk, rfl⟩ h5

set_option maxRecDepth 100000 in
set_option maxHeartbeats 4000000 in
theorem c_X6_found_0 {sc : Nat × (Nat → Int32)} {d : Nat} (I : Nat → Nat → Int32) (J : Nat → Nat → Int64) (A : zA) (hC : CR 3 I A) (hW : WF A) (k : Nat) (hk : k < aM A) : EvM sc (d + 1) 0 0 mX6_found [.ref 0, .int (nI k), .int (nI 0)] (zz_SH, I, J) (zz_is (.int (fo (fnd A k (aN A)))) (zz_SH, I, J)) := by
  have w1 := hW.1.1
  have w2 := hW.1.2.1
  refine EvM.of (by decide) rfl (Nat.le_of_ble_eq_true rfl) ?_
  show Ev _ _ _ _ _ 0 [some (.ref 0), some (.int (nI k)), some (.int (nI 0)), none] [] (zz_SH, I, J) _
  refine Ev.run [(.aload_n 0, 1), (.getfield 21, 3), (.iload_n 1, 1)] (pc' := 5) (L' := [some (.ref 0), some (.int (nI k)), some (.int (nI 0)), none]) (S' := [.int (nI k), .ref 3]) rfl (by decide +kernel) rfl ?_
  refine Ev.callV0 mX2_isSentence [.int (nI k)] [] _ rfl lk_RX6_118 (by decide +kernel) (rfl) rfl rfl rfl (Nat.le_of_ble_eq_true rfl) (c_X2_isSentence I J (aM A) (nI k) hC.1.1.2 hW.1.2.1) ?_
  rintro _ _ ⟨rfl, ⟨rfl, h5⟩ | ⟨rfl, h5⟩⟩
  · show Ev _ _ _ _ _ 8 [some (.ref 0), some (.int (nI k)), some (.int (nI 0)), none] [.int (nI 1)] (zz_SH, I, J) _
    refine Ev.if_ne (off := 5) (tgt := 13) (by decide +kernel) (by decide) (fun h8 => ?_) (fun h8 => absurd h8 (by decide))
    refine Ev.run [(.iload_n 2, 1)] (pc' := 14) (L' := [some (.ref 0), some (.int (nI k)), some (.int (nI 0)), none]) (S' := [.int (nI 0)]) rfl (by decide +kernel) rfl ?_
    refine Ev.if_eq (off := 11) (tgt := 25) (by decide +kernel) (by decide) (fun h14 => ?_) (fun h14 => absurd h14 (by decide))
    refine Ev.run [(.aload_n 0, 1), (.getfield 21, 3), (.iload_n 1, 1)] (pc' := 30) (L' := [some (.ref 0), some (.int (nI k)), some (.int (nI 0)), none]) (S' := [.int (nI k), .ref 3]) rfl (by decide +kernel) rfl ?_
    refine Ev.callV0 mX2_bestFor [.int (nI k)] [] _ rfl lk_RX6_129 (by decide +kernel) (rfl) rfl rfl rfl (Nat.le_of_ble_eq_true rfl) (c_X2_bestFor I J A hC hW k hk) ?_
    rintro _ _ ⟨rfl, rfl⟩
    show Ev _ _ _ _ _ 33 [some (.ref 0), some (.int (nI k)), some (.int (nI 0)), none] [.int (fo (fnd A k (aN A)))] (zz_SH, I, J) _
    refine Ev.run [(.istore_n 3, 1), (.iload_n 2, 1)] (pc' := 35) (L' := [some (.ref 0), some (.int (nI k)), some (.int (nI 0)), some (.int (fo (fnd A k (aN A))))]) (S' := [.int (nI 0)]) rfl (by decide +kernel) rfl ?_
    refine Ev.if_eq (off := 9) (tgt := 44) (by decide +kernel) (by decide) (fun h35 => ?_) (fun h35 => absurd h35 (by decide))
    refine Ev.run [(.iload_n 3, 1)] (pc' := 45) (L' := [some (.ref 0), some (.int (nI k)), some (.int (nI 0)), some (.int (fo (fnd A k (aN A))))]) (S' := [.int (fo (fnd A k (aN A)))]) rfl (by decide +kernel) rfl ?_
    refine Ev.goto (off := 14) (tgt := 59) (by decide +kernel) (by decide) ?_
    exact Ev.iret rfl (by decide +kernel) (⟨rfl, rfl⟩)
  · exact absurd ⟨k, hk, rfl⟩ h5

set_option maxRecDepth 100000 in
set_option maxHeartbeats 4000000 in
theorem c_X6_found_1n {sc : Nat × (Nat → Int32)} {d : Nat} (I : Nat → Nat → Int32) (J : Nat → Nat → Int64) (A : zA) (hC : CR 3 I A) (hW : WF A) (k : Nat) (hk : k < aM A) (hx : fnd A k (aN A) = none) : EvM sc (d + 1) 0 0 mX6_found [.ref 0, .int (nI k), .int (nI 1)] (zz_SH, I, J) (zz_is (.int (fv (fnd A k (aN A)))) (zz_SH, I, J)) := by
  have w1 := hW.1.1
  have w2 := hW.1.2.1
  refine EvM.of (by decide) rfl (Nat.le_of_ble_eq_true rfl) ?_
  show Ev _ _ _ _ _ 0 [some (.ref 0), some (.int (nI k)), some (.int (nI 1)), none] [] (zz_SH, I, J) _
  refine Ev.run [(.aload_n 0, 1), (.getfield 21, 3), (.iload_n 1, 1)] (pc' := 5) (L' := [some (.ref 0), some (.int (nI k)), some (.int (nI 1)), none]) (S' := [.int (nI k), .ref 3]) rfl (by decide +kernel) rfl ?_
  refine Ev.callV0 mX2_isSentence [.int (nI k)] [] _ rfl lk_RX6_118 (by decide +kernel) (rfl) rfl rfl rfl (Nat.le_of_ble_eq_true rfl) (c_X2_isSentence I J (aM A) (nI k) hC.1.1.2 hW.1.2.1) ?_
  rintro _ _ ⟨rfl, ⟨rfl, h5⟩ | ⟨rfl, h5⟩⟩
  · show Ev _ _ _ _ _ 8 [some (.ref 0), some (.int (nI k)), some (.int (nI 1)), none] [.int (nI 1)] (zz_SH, I, J) _
    refine Ev.if_ne (off := 5) (tgt := 13) (by decide +kernel) (by decide) (fun h8 => ?_) (fun h8 => absurd h8 (by decide))
    refine Ev.run [(.iload_n 2, 1)] (pc' := 14) (L' := [some (.ref 0), some (.int (nI k)), some (.int (nI 1)), none]) (S' := [.int (nI 1)]) rfl (by decide +kernel) rfl ?_
    refine Ev.if_eq (off := 11) (tgt := 25) (by decide +kernel) (by decide) (fun h14 => absurd h14 (by decide)) (fun h14 => ?_)
    refine Ev.run [(.iload_n 2, 1), (.iconst 1, 1)] (pc' := 19) (L' := [some (.ref 0), some (.int (nI k)), some (.int (nI 1)), none]) (S' := [.int (nI 1), .int (nI 1)]) rfl (by decide +kernel) rfl ?_
    refine Ev.icmp_eq (off := 6) (tgt := 25) (by decide +kernel) (by decide) (fun h19 => ?_) (fun h19 => absurd h19 (by decide))
    refine Ev.run [(.aload_n 0, 1), (.getfield 21, 3), (.iload_n 1, 1)] (pc' := 30) (L' := [some (.ref 0), some (.int (nI k)), some (.int (nI 1)), none]) (S' := [.int (nI k), .ref 3]) rfl (by decide +kernel) rfl ?_
    refine Ev.callV0 mX2_bestFor [.int (nI k)] [] _ rfl lk_RX6_129 (by decide +kernel) (rfl) rfl rfl rfl (Nat.le_of_ble_eq_true rfl) (c_X2_bestFor I J A hC hW k hk) ?_
    rintro _ _ ⟨rfl, rfl⟩
    rw [hx]
    show Ev _ _ _ _ _ 33 [some (.ref 0), some (.int (nI k)), some (.int (nI 1)), none] [.int ((-6))] (zz_SH, I, J) _
    refine Ev.run [(.istore_n 3, 1), (.iload_n 2, 1)] (pc' := 35) (L' := [some (.ref 0), some (.int (nI k)), some (.int (nI 1)), some (.int ((-6)))]) (S' := [.int (nI 1)]) rfl (by decide +kernel) rfl ?_
    refine Ev.if_eq (off := 9) (tgt := 44) (by decide +kernel) (by decide) (fun h35 => absurd h35 (by decide)) (fun h35 => ?_)
    refine Ev.run [(.iload_n 3, 1), (.bipush (-6), 2)] (pc' := 41) (L' := [some (.ref 0), some (.int (nI k)), some (.int (nI 1)), some (.int ((-6)))]) (S' := [.int ((-6)), .int ((-6))]) rfl (by decide +kernel) rfl ?_
    refine Ev.icmp_ne (off := 7) (tgt := 48) (by decide +kernel) (by decide) (fun h41 => ?_) (fun h41 => ?_)
    · exact absurd rfl h41
    · refine Ev.run [(.iload_n 3, 1)] (pc' := 45) (L' := [some (.ref 0), some (.int (nI k)), some (.int (nI 1)), some (.int ((-6)))]) (S' := [.int ((-6))]) rfl (by decide +kernel) rfl ?_
      refine Ev.goto (off := 14) (tgt := 59) (by decide +kernel) (by decide) ?_
      exact Ev.iret rfl (by decide +kernel) (⟨rfl, rfl⟩)
  · exact absurd ⟨k, hk, rfl⟩ h5

set_option maxRecDepth 100000 in
set_option maxHeartbeats 4000000 in
theorem c_X6_found_1s {sc : Nat × (Nat → Int32)} {d : Nat} (I : Nat → Nat → Int32) (J : Nat → Nat → Int64) (A : zA) (hC : CR 3 I A) (hW : WF A) (k : Nat) (hk : k < aM A) (p v : Nat) (hx : fnd A k (aN A) = some (p, v)) : EvM sc (d + 1) 0 0 mX6_found [.ref 0, .int (nI k), .int (nI 1)] (zz_SH, I, J) (zz_is (.int (fv (fnd A k (aN A)))) (zz_SH, I, J)) := by
  have w1 := hW.1.1
  have w2 := hW.1.2.1
  obtain ⟨hp1, hp2⟩ := fnd_ok A k _ p v hx
  have b1 := mtc_le A k p
  refine EvM.of (by decide) rfl (Nat.le_of_ble_eq_true rfl) ?_
  show Ev _ _ _ _ _ 0 [some (.ref 0), some (.int (nI k)), some (.int (nI 1)), none] [] (zz_SH, I, J) _
  refine Ev.run [(.aload_n 0, 1), (.getfield 21, 3), (.iload_n 1, 1)] (pc' := 5) (L' := [some (.ref 0), some (.int (nI k)), some (.int (nI 1)), none]) (S' := [.int (nI k), .ref 3]) rfl (by decide +kernel) rfl ?_
  refine Ev.callV0 mX2_isSentence [.int (nI k)] [] _ rfl lk_RX6_118 (by decide +kernel) (rfl) rfl rfl rfl (Nat.le_of_ble_eq_true rfl) (c_X2_isSentence I J (aM A) (nI k) hC.1.1.2 hW.1.2.1) ?_
  rintro _ _ ⟨rfl, ⟨rfl, h5⟩ | ⟨rfl, h5⟩⟩
  · show Ev _ _ _ _ _ 8 [some (.ref 0), some (.int (nI k)), some (.int (nI 1)), none] [.int (nI 1)] (zz_SH, I, J) _
    refine Ev.if_ne (off := 5) (tgt := 13) (by decide +kernel) (by decide) (fun h8 => ?_) (fun h8 => absurd h8 (by decide))
    refine Ev.run [(.iload_n 2, 1)] (pc' := 14) (L' := [some (.ref 0), some (.int (nI k)), some (.int (nI 1)), none]) (S' := [.int (nI 1)]) rfl (by decide +kernel) rfl ?_
    refine Ev.if_eq (off := 11) (tgt := 25) (by decide +kernel) (by decide) (fun h14 => absurd h14 (by decide)) (fun h14 => ?_)
    refine Ev.run [(.iload_n 2, 1), (.iconst 1, 1)] (pc' := 19) (L' := [some (.ref 0), some (.int (nI k)), some (.int (nI 1)), none]) (S' := [.int (nI 1), .int (nI 1)]) rfl (by decide +kernel) rfl ?_
    refine Ev.icmp_eq (off := 6) (tgt := 25) (by decide +kernel) (by decide) (fun h19 => ?_) (fun h19 => absurd h19 (by decide))
    refine Ev.run [(.aload_n 0, 1), (.getfield 21, 3), (.iload_n 1, 1)] (pc' := 30) (L' := [some (.ref 0), some (.int (nI k)), some (.int (nI 1)), none]) (S' := [.int (nI k), .ref 3]) rfl (by decide +kernel) rfl ?_
    refine Ev.callV0 mX2_bestFor [.int (nI k)] [] _ rfl lk_RX6_129 (by decide +kernel) (rfl) rfl rfl rfl (Nat.le_of_ble_eq_true rfl) (c_X2_bestFor I J A hC hW k hk) ?_
    rintro _ _ ⟨rfl, rfl⟩
    rw [hx]
    show Ev _ _ _ _ _ 33 [some (.ref 0), some (.int (nI k)), some (.int (nI 1)), none] [.int (nI p)] (zz_SH, I, J) _
    refine Ev.run [(.istore_n 3, 1), (.iload_n 2, 1)] (pc' := 35) (L' := [some (.ref 0), some (.int (nI k)), some (.int (nI 1)), some (.int (nI p))]) (S' := [.int (nI 1)]) rfl (by decide +kernel) rfl ?_
    refine Ev.if_eq (off := 9) (tgt := 44) (by decide +kernel) (by decide) (fun h35 => absurd h35 (by decide)) (fun h35 => ?_)
    refine Ev.run [(.iload_n 3, 1), (.bipush (-6), 2)] (pc' := 41) (L' := [some (.ref 0), some (.int (nI k)), some (.int (nI 1)), some (.int (nI p))]) (S' := [.int ((-6)), .int (nI p)]) rfl (by decide +kernel) rfl ?_
    refine Ev.icmp_ne (off := 7) (tgt := 48) (by decide +kernel) (by decide) (fun h41 => ?_) (fun h41 => absurd h41 (fo_ne (by omega) hx))
    refine Ev.run [(.aload_n 0, 1), (.getfield 21, 3), (.getfield 125, 3), (.iload_n 1, 1)] (pc' := 56) (L' := [some (.ref 0), some (.int (nI k)), some (.int (nI 1)), some (.int (nI p))]) (S' := [.int (nI k), .ref 8]) rfl (by decide +kernel) rfl ?_
    refine Ev.aald k (by decide +kernel) (rfl) (by decide) (rfl) (by omega) (by first | decide | omega) (zz_b9 k (by omega)) ?_
    refine Ev.run [(.iload_n 3, 1)] (pc' := 58) (L' := [some (.ref 0), some (.int (nI k)), some (.int (nI 1)), some (.int (nI p))]) (S' := [.int (nI p), .ref (9 + k)]) rfl (by decide +kernel) rfl ?_
    refine Ev.iald p (by decide +kernel) (zz_s9 k (by omega)) (rfl) (by omega) (by first | decide | omega) ?_
    dsimp only
    rw [show I (9 + k) p = nI (mtc A k p) from (hC.2.1 k hk).1 p hp1]
    exact Ev.iret rfl (by decide +kernel) (⟨by rw [hp2]; rfl, rfl⟩)
  · exact absurd ⟨k, hk, rfl⟩ h5

theorem c_X6_found_1 {sc : Nat × (Nat → Int32)} {d : Nat} (I : Nat → Nat → Int32) (J : Nat → Nat → Int64) (A : zA) (hC : CR 3 I A) (hW : WF A) (k : Nat) (hk : k < aM A) : EvM sc (d + 1) 0 0 mX6_found [.ref 0, .int (nI k), .int (nI 1)] (zz_SH, I, J) (zz_is (.int (fv (fnd A k (aN A)))) (zz_SH, I, J)) := by
  have key : ∀ x, fnd A k (aN A) = x → EvM sc (d + 1) 0 0 mX6_found [.ref 0, .int (nI k), .int (nI 1)] (zz_SH, I, J) (zz_is (.int (fv (fnd A k (aN A)))) (zz_SH, I, J)) := by
    intro x hx
    cases x with
    | none => exact c_X6_found_1n I J A hC hW k hk hx
    | some y => exact c_X6_found_1s I J A hC hW k hk y.1 y.2 hx
  exact key _ rfl

set_option maxRecDepth 100000 in
set_option maxHeartbeats 4000000 in
theorem l_X1_lbn {sc : Nat × (Nat → Int32)} {d : Nat} (I : Nat → Nat → Int32) (J : Nat → Nat → Int64) (A : zA) (hC : CR 3 I A) (hW : WF A) (k p : Nat) (hk : k < aM A) (hp : p < aN A) (he : tz A k = fz A p) : ∀ (μ : Nat) (i : Nat), tz A k - i < μ → (i ≤ tz A k) → (∀ j, j < i → chg (tt A k j) (ff A p j) < 4) →  Ev sc (d + 2) 0 0 mX1_likeButForNumbers 15 [some (.ref (84 + 2 * k)), some (.ref (36 + 4 * p)), some (.int (nI i))] [] (zz_SH, I, J) (zz_tf (dfl A k p) (zz_SH, I, J)) := by
  intro μ
  induction μ with
  | zero => intro i hμ; exact absurd hμ (Nat.not_lt_zero _)
  | succ μ ih =>
    intro i hμ hi hal
    have w1 := hW.1.1
    have w2 := hW.1.2.1
    have t1 := (hW.2.2.1 k hk).1
    have t2 := (hW.2.1 p hp).1
    refine Ev.run [(.iload_n 2, 1), (.aload_n 0, 1)] (pc' := 17) (L' := [some (.ref (84 + 2 * k)), some (.ref (36 + 4 * p)), some (.int (nI i))]) (S' := [.ref (84 + 2 * k), .int (nI i)]) rfl (by decide +kernel) rfl ?_
    refine Ev.getf (idx := 15) (x := none) (v := .int (I (84 + 2 * k) 1)) rfl rfl (by decide +kernel) ((zz_r84 k (by omega)).1) rfl rfl ?_
    rw [show I (84 + 2 * k) 1 = nI (tz A k) from (hC.1.2.2.1 k hk).1]
    refine Ev.icmp_ge (off := 28) (tgt := 48) (by decide +kernel) (by decide) (fun h20 => ?_) (fun h20 => ?_)
    · have h20 : i ≥ (tz A k) := zz_bG_t (by omega) (by omega) h20
      refine Ev.run [(.iconst 1, 1)] (pc' := 49) (L' := [some (.ref (84 + 2 * k)), some (.ref (36 + 4 * p)), some (.int (nI i))]) (S' := [.int (nI 1)]) rfl (by decide +kernel) rfl ?_
      exact Ev.zret rfl (by decide +kernel) (Or.inr rfl) (⟨rfl, Or.inl ⟨rfl, he, fun j hj => hal j (by omega)⟩⟩)
    · have h20 : i < (tz A k) := zz_bG_f (by omega) (by omega) h20
      refine Ev.run [(.aload_n 0, 1), (.iload_n 2, 1)] (pc' := 25) (L' := [some (.ref (84 + 2 * k)), some (.ref (36 + 4 * p)), some (.int (nI i))]) (S' := [.int (nI i), .ref (84 + 2 * k)]) rfl (by decide +kernel) rfl ?_
      refine Ev.callV0 mX4_at [.int (nI i)] [] _ rfl lk_RX1_27 (by decide +kernel) ((zz_r84 k (by omega)).1) rfl rfl rfl (Nat.le_of_ble_eq_true rfl) (c_X4_at I J (84 + 2 * k) 12 (nI i) (zz_r84 k (by omega))) ?_
      rintro _ _ ⟨rfl, rfl⟩
      rw [show zz_rat I (84 + 2 * k) 12 (nI i) = nI (tt A k i) from zz_rf.at (hC.1.2.2.1 k hk) t1.2 (by decide) (by omega)]
      show Ev _ _ _ _ _ 28 [some (.ref (84 + 2 * k)), some (.ref (36 + 4 * p)), some (.int (nI i))] [.int (nI (tt A k i))] (zz_SH, I, J) _
      refine Ev.run [(.aload_n 1, 1), (.iload_n 2, 1)] (pc' := 30) (L' := [some (.ref (84 + 2 * k)), some (.ref (36 + 4 * p)), some (.int (nI i))]) (S' := [.int (nI i), .ref (36 + 4 * p), .int (nI (tt A k i))]) rfl (by decide +kernel) rfl ?_
      refine Ev.callV0 mX4_at [.int (nI i)] [.int (nI (tt A k i))] _ rfl lk_RX1_27 (by decide +kernel) ((zz_r36 p (by omega)).1) rfl rfl rfl (Nat.le_of_ble_eq_true rfl) (c_X4_at I J (36 + 4 * p) 12 (nI i) (zz_r36 p (by omega))) ?_
      rintro _ _ ⟨rfl, rfl⟩
      rw [show zz_rat I (36 + 4 * p) 12 (nI i) = nI (ff A p i) from zz_rf.at (hC.1.2.1 p hp).2.1 t2.2.1 (by decide) (by omega)]
      show Ev _ _ _ _ _ 33 [some (.ref (84 + 2 * k)), some (.ref (36 + 4 * p)), some (.int (nI i))] [.int (nI (ff A p i)), .int (nI (tt A k i))] (zz_SH, I, J) _
      refine Ev.callS0 mX1_costOfChange [.int (nI (tt A k i)), .int (nI (ff A p i))] [] _ rfl lk_RX1_31 (by decide +kernel) rfl (Nat.le_of_ble_eq_true rfl) (c_X1_costOfChange I J (tt A k i) (ff A p i) (hW.tt hk i (by omega)) (hW.ff hp i (by omega))) ?_
      rintro _ _ ⟨rfl, rfl⟩
      have b4 := chg_le (tt A k i) (ff A p i)
      show Ev _ _ _ _ _ 36 [some (.ref (84 + 2 * k)), some (.ref (36 + 4 * p)), some (.int (nI i))] [.int (nI (chg (tt A k i) (ff A p i)))] (zz_SH, I, J) _
      refine Ev.run [(.iconst 4, 1)] (pc' := 37) (L' := [some (.ref (84 + 2 * k)), some (.ref (36 + 4 * p)), some (.int (nI i))]) (S' := [.int (nI 4), .int (nI (chg (tt A k i) (ff A p i)))]) rfl (by decide +kernel) rfl ?_
      refine Ev.icmp_ne (off := 5) (tgt := 42) (by decide +kernel) (by decide) (fun h37 => ?_) (fun h37 => ?_)
      · have h37 : ¬ (chg (tt A k i) (ff A p i)) = 4 := zz_bE_f (by omega) (by omega) h37
        refine Ev.run [(.iinc 2 1, 3)] (pc' := 45) (L' := [some (.ref (84 + 2 * k)), some (.ref (36 + 4 * p)), some (.int (nI i + 1))]) (S' := []) rfl (by decide +kernel) rfl ?_
        rw [nI_1 i]
        refine Ev.goto (off := (-30)) (tgt := 15) (by decide +kernel) (by decide) ?_
        exact ih (i + 1) (by omega) (by omega) (lt_s hal (by omega))
      · have h37 : (chg (tt A k i) (ff A p i)) = 4 := zz_bE_t (by omega) (by omega) h37
        refine Ev.run [(.iconst 0, 1)] (pc' := 41) (L' := [some (.ref (84 + 2 * k)), some (.ref (36 + 4 * p)), some (.int (nI i))]) (S' := [.int (nI 0)]) rfl (by decide +kernel) rfl ?_
        exact Ev.zret rfl (by decide +kernel) (Or.inl rfl) (⟨rfl, Or.inr ⟨rfl, fun q => absurd (q.2 i (by omega)) (by omega)⟩⟩)

set_option maxRecDepth 100000 in
set_option maxHeartbeats 4000000 in
theorem c_X1_likeButForNumbers {sc : Nat × (Nat → Int32)} {d : Nat} (I : Nat → Nat → Int32) (J : Nat → Nat → Int64) (A : zA) (hC : CR 3 I A) (hW : WF A) (k p : Nat) (hk : k < aM A) (hp : p < aN A) : EvM sc (d + 2) 0 0 mX1_likeButForNumbers [.ref (84 + 2 * k), .ref (36 + 4 * p)] (zz_SH, I, J) (zz_tf (dfl A k p) (zz_SH, I, J)) := by
  have w1 := hW.1.1
  have w2 := hW.1.2.1
  have t1 := (hW.2.2.1 k hk).1
  have t2 := (hW.2.1 p hp).1
  refine EvM.of (by decide) rfl (Nat.le_of_ble_eq_true rfl) ?_
  show Ev _ _ _ _ _ 0 [some (.ref (84 + 2 * k)), some (.ref (36 + 4 * p)), none] [] (zz_SH, I, J) _
  refine Ev.run [(.aload_n 0, 1)] (pc' := 1) (L' := [some (.ref (84 + 2 * k)), some (.ref (36 + 4 * p)), none]) (S' := [.ref (84 + 2 * k)]) rfl (by decide +kernel) rfl ?_
  refine Ev.getf (idx := 15) (x := none) (v := .int (I (84 + 2 * k) 1)) rfl rfl (by decide +kernel) ((zz_r84 k (by omega)).1) rfl rfl ?_
  rw [show I (84 + 2 * k) 1 = nI (tz A k) from (hC.1.2.2.1 k hk).1]
  refine Ev.run [(.aload_n 1, 1)] (pc' := 5) (L' := [some (.ref (84 + 2 * k)), some (.ref (36 + 4 * p)), none]) (S' := [.ref (36 + 4 * p), .int (nI (tz A k))]) rfl (by decide +kernel) rfl ?_
  refine Ev.getf (idx := 15) (x := none) (v := .int (I (36 + 4 * p) 1)) rfl rfl (by decide +kernel) ((zz_r36 p (by omega)).1) rfl rfl ?_
  rw [show I (36 + 4 * p) 1 = nI (fz A p) from (hC.1.2.1 p hp).2.1.1]
  refine Ev.icmp_eq (off := 5) (tgt := 13) (by decide +kernel) (by decide) (fun h8 => ?_) (fun h8 => ?_)
  · have h8 : (tz A k) = (fz A p) := zz_bE_t (by omega) (by omega) h8
    refine Ev.run [(.iconst 0, 1), (.istore_n 2, 1)] (pc' := 15) (L' := [some (.ref (84 + 2 * k)), some (.ref (36 + 4 * p)), some (.int (nI 0))]) (S' := []) rfl (by decide +kernel) rfl ?_
    exact l_X1_lbn I J A hC hW k p hk hp h8 (tz A k + 1) 0 (by omega) (by omega) (fun j hj => absurd hj (Nat.not_lt_zero j))
  · have h8 : ¬ (tz A k) = (fz A p) := zz_bE_f (by omega) (by omega) h8
    refine Ev.run [(.iconst 0, 1)] (pc' := 12) (L' := [some (.ref (84 + 2 * k)), some (.ref (36 + 4 * p)), none]) (S' := [.int (nI 0)]) rfl (by decide +kernel) rfl ?_
    exact Ev.zret rfl (by decide +kernel) (Or.inl rfl) (⟨rfl, Or.inr ⟨rfl, fun q => h8 q.1⟩⟩)

theorem lkf_no {f t : Nat → Nat} {s : Nat} : ∀ n j, (∀ i, j ≤ i → i < j + n → f i ≠ s) → lkf f t s j n = s
  | 0, _, _ => by rw [lkf]
  | n + 1, j, h => by
    rw [lkf, if_neg (h j (Nat.le_refl _) (by omega))]
    exact lkf_no n (j + 1) (fun i h1 h2 => h i (by omega) (by omega))
theorem lkf_at {f t : Nat → Nat} {s i : Nat} (hi : f i = s) : ∀ n j, j ≤ i → i < j + n → (∀ x, j ≤ x → x < i → f x ≠ s) → lkf f t s j n = t i
  | 0, j, h1, h2, _ => by omega
  | n + 1, j, h1, h2, h => by
    rw [lkf]
    by_cases e : j = i
    · subst e; rw [if_pos hi]
    · rw [if_neg (h j (Nat.le_refl _) (by omega))]
      exact lkf_at hi n (j + 1) (by omega) (by omega) (fun x h3 h4 => h x (by omega) h4)

set_option maxRecDepth 100000 in
set_option maxHeartbeats 4000000 in
theorem c_X6_signFilled {sc : Nat × (Nat → Int32)} {d : Nat} (I : Nat → Nat → Int32) (J : Nat → Nat → Int64) (A : zA) (hC : CR 3 I A) (hW : WF A) (k p : Nat) (hk : k < aM A) (hp : p < aN A) (he : tz A k = fz A p) (g : Nat) (hg : g < 1000) : EvM sc (d + 2) 0 0 mX6_signFilled [.int (nI g), .ref (36 + 4 * p), .ref (84 + 2 * k)] (zz_SH, I, J) (zz_is (.int (nI (if 48 ≤ g ∧ g ≤ 57 then lkf (ff A p) (tt A k) g 0 (fz A p) else g))) (zz_SH, I, J)) := by
  have w1 := hW.1.1
  have w2 := hW.1.2.1
  have t1 := (hW.2.2.1 k hk).1
  have t2 := (hW.2.1 p hp).1
  have hrf : zz_rf I (36 + 4 * p) (fz A p) (ff A p) := (hC.1.2.1 p hp).2.1
  refine EvM.of (by decide) rfl (Nat.le_of_ble_eq_true rfl) ?_
  show Ev _ _ _ _ _ 0 [some (.int (nI g)), some (.ref (36 + 4 * p)), some (.ref (84 + 2 * k)), none] [] (zz_SH, I, J) _
  refine Ev.run [(.iload_n 0, 1)] (pc' := 1) (L' := [some (.int (nI g)), some (.ref (36 + 4 * p)), some (.ref (84 + 2 * k)), none]) (S' := [.int (nI g)]) rfl (by decide +kernel) rfl ?_
  refine Ev.callS0 mX6_isNumber [.int (nI g)] [] _ rfl lk_RX6_115 (by decide +kernel) rfl (Nat.le_of_ble_eq_true rfl) (c_X6_isNumber I J (nI g)) ?_
  rintro _ _ ⟨rfl, ⟨rfl, h1⟩ | ⟨rfl, h1⟩⟩
  · show Ev _ _ _ _ _ 4 [some (.int (nI g)), some (.ref (36 + 4 * p)), some (.ref (84 + 2 * k)), none] [.int (nI 1)] (zz_SH, I, J) _
    rw [zz_num (by omega)] at h1
    refine Ev.if_ne (off := 5) (tgt := 9) (by decide +kernel) (by decide) (fun h4 => ?_) (fun h4 => absurd h4 (by decide))
    refine Ev.run [(.aload_n 1, 1), (.iload_n 0, 1)] (pc' := 11) (L' := [some (.int (nI g)), some (.ref (36 + 4 * p)), some (.ref (84 + 2 * k)), none]) (S' := [.int (nI g), .ref (36 + 4 * p)]) rfl (by decide +kernel) rfl ?_
    refine Ev.callV0 mX4_placeOf [.int (nI g)] [] _ rfl lk_RX6_140 (by decide +kernel) ((zz_r36 p (by omega)).1) rfl rfl rfl (Nat.le_of_ble_eq_true rfl) (c_X4_placeOf I J (36 + 4 * p) 12 (fz A p) (nI g) (zz_r36 p (by omega)) (hC.1.2.1 p hp).2.1.1 t2.2.1) ?_
    rintro _ _ ⟨rfl, x9, rfl, ⟨rfl, h11⟩ | ⟨j9, hj9, rfl, h11, h12⟩⟩
    · show Ev _ _ _ _ _ 14 [some (.int (nI g)), some (.ref (36 + 4 * p)), some (.ref (84 + 2 * k)), none] [.int ((-6))] (zz_SH, I, J) _
      have h11 : ∀ i, 0 ≤ i → i < 0 + fz A p → ff A p i ≠ g := fun i _ hi => by intro e; exact h11 i (by omega) (by rw [hrf.2 i (by omega), e])
      refine Ev.run [(.istore_n 3, 1), (.iload_n 3, 1), (.bipush (-6), 2)] (pc' := 18) (L' := [some (.int (nI g)), some (.ref (36 + 4 * p)), some (.ref (84 + 2 * k)), some (.int ((-6)))]) (S' := [.int ((-6)), .int ((-6))]) rfl (by decide +kernel) rfl ?_
      refine Ev.icmp_ne (off := 7) (tgt := 25) (by decide +kernel) (by decide) (fun h18 => ?_) (fun h18 => ?_)
      · exact absurd rfl h18
      · refine Ev.run [(.iload_n 0, 1)] (pc' := 22) (L' := [some (.int (nI g)), some (.ref (36 + 4 * p)), some (.ref (84 + 2 * k)), some (.int ((-6)))]) (S' := [.int (nI g)]) rfl (by decide +kernel) rfl ?_
        refine Ev.goto (off := 8) (tgt := 30) (by decide +kernel) (by decide) ?_
        exact Ev.iret rfl (by decide +kernel) (⟨by rw [if_pos h1, lkf_no _ _ h11], rfl⟩)
    · show Ev _ _ _ _ _ 14 [some (.int (nI g)), some (.ref (36 + 4 * p)), some (.ref (84 + 2 * k)), none] [.int (nI j9)] (zz_SH, I, J) _
      have h11 : ff A p j9 = g := (nI_eq (by have := hW.ff hp j9 hj9; omega) (by omega)).mp (by rw [← hrf.2 j9 hj9]; exact h11)
      have h12 : ∀ x, 0 ≤ x → x < j9 → ff A p x ≠ g := fun i _ hi => by intro e; exact h12 i hi (by rw [hrf.2 i (by omega), e])
      refine Ev.run [(.istore_n 3, 1), (.iload_n 3, 1), (.bipush (-6), 2)] (pc' := 18) (L' := [some (.int (nI g)), some (.ref (36 + 4 * p)), some (.ref (84 + 2 * k)), some (.int (nI j9))]) (S' := [.int ((-6)), .int (nI j9)]) rfl (by decide +kernel) rfl ?_
      refine Ev.icmp_ne (off := 7) (tgt := 25) (by decide +kernel) (by decide) (fun h18 => ?_) (fun h18 => absurd h18 (fun q => zz_m6 (j9 + 1) (by omega) ⟨j9, Nat.lt_succ_self _, q.symm⟩))
      refine Ev.run [(.aload_n 2, 1), (.iload_n 3, 1)] (pc' := 27) (L' := [some (.int (nI g)), some (.ref (36 + 4 * p)), some (.ref (84 + 2 * k)), some (.int (nI j9))]) (S' := [.int (nI j9), .ref (84 + 2 * k)]) rfl (by decide +kernel) rfl ?_
      refine Ev.callV0 mX4_at [.int (nI j9)] [] _ rfl lk_RX6_107 (by decide +kernel) ((zz_r84 k (by omega)).1) rfl rfl rfl (Nat.le_of_ble_eq_true rfl) (c_X4_at I J (84 + 2 * k) 12 (nI j9) (zz_r84 k (by omega))) ?_
      rintro _ _ ⟨rfl, rfl⟩
      rw [show zz_rat I (84 + 2 * k) 12 (nI j9) = nI (tt A k j9) from zz_rf.at (hC.1.2.2.1 k hk) t1.2 (by decide) (by omega)]
      show Ev _ _ _ _ _ 30 [some (.int (nI g)), some (.ref (36 + 4 * p)), some (.ref (84 + 2 * k)), some (.int (nI j9))] [.int (nI (tt A k j9))] (zz_SH, I, J) _
      exact Ev.iret rfl (by decide +kernel) (⟨by rw [if_pos h1, lkf_at h11 _ _ (Nat.zero_le _) (by omega) h12], rfl⟩)
  · show Ev _ _ _ _ _ 4 [some (.int (nI g)), some (.ref (36 + 4 * p)), some (.ref (84 + 2 * k)), none] [.int (nI 0)] (zz_SH, I, J) _
    rw [zz_num (by omega)] at h1
    refine Ev.if_ne (off := 5) (tgt := 9) (by decide +kernel) (by decide) (fun h4 => absurd h4 (by decide)) (fun h4 => ?_)
    refine Ev.run [(.iload_n 0, 1)] (pc' := 8) (L' := [some (.int (nI g)), some (.ref (36 + 4 * p)), some (.ref (84 + 2 * k)), none]) (S' := [.int (nI g)]) rfl (by decide +kernel) rfl ?_
    exact Ev.iret rfl (by decide +kernel) (⟨by rw [if_neg h1], rfl⟩)

set_option maxRecDepth 100000 in
set_option maxHeartbeats 4000000 in
theorem c_X6_signFilled_o {sc : Nat × (Nat → Int32)} {d : Nat} (I : Nat → Nat → Int32) (J : Nat → Nat → Int64) (a b : Nat) : EvM sc (d + 2) 0 0 mX6_signFilled [.int ((-6)), .ref a, .ref b] (zz_SH, I, J) (zz_is (.int (-6)) (zz_SH, I, J)) := by
  refine EvM.of (by decide) rfl (Nat.le_of_ble_eq_true rfl) ?_
  show Ev _ _ _ _ _ 0 [some (.int ((-6))), some (.ref a), some (.ref b), none] [] (zz_SH, I, J) _
  refine Ev.run [(.iload_n 0, 1)] (pc' := 1) (L' := [some (.int ((-6))), some (.ref a), some (.ref b), none]) (S' := [.int ((-6))]) rfl (by decide +kernel) rfl ?_
  refine Ev.callS0 mX6_isNumber [.int ((-6))] [] _ rfl lk_RX6_115 (by decide +kernel) rfl (Nat.le_of_ble_eq_true rfl) (c_X6_isNumber I J (-6)) ?_
  rintro _ _ ⟨rfl, ⟨rfl, h1⟩ | ⟨rfl, h1⟩⟩
  · exact absurd h1 (by decide)
  · show Ev _ _ _ _ _ 4 [some (.int ((-6))), some (.ref a), some (.ref b), none] [.int (nI 0)] (zz_SH, I, J) _
    refine Ev.if_ne (off := 5) (tgt := 9) (by decide +kernel) (by decide) (fun h4 => absurd h4 (by decide)) (fun h4 => ?_)
    refine Ev.run [(.iload_n 0, 1)] (pc' := 8) (L' := [some (.int ((-6))), some (.ref a), some (.ref b), none]) (S' := [.int ((-6))]) rfl (by decide +kernel) rfl ?_
    exact Ev.iret rfl (by decide +kernel) (⟨rfl, rfl⟩)

set_option maxRecDepth 100000 in
set_option maxHeartbeats 4000000 in
theorem c_X6_filled_u {sc : Nat × (Nat → Int32)} {d : Nat} (I : Nat → Nat → Int32) (J : Nat → Nat → Int64) (A : zA) (hC : CR 3 I A) (hW : WF A) (x y : Int32) (hx2 : ¬ zz_ix x (aM A)) : EvM sc (d + 3) 0 0 mX6_filled [.ref 0, .int x, .int y] (zz_SH, I, J) (zz_is (.int (-1)) (zz_SH, I, J)) := by
  have w1 := hW.1.1
  have w2 := hW.1.2.1
  refine EvM.of (by decide) rfl (Nat.le_of_ble_eq_true rfl) ?_
  show Ev _ _ _ _ _ 0 [some (.ref 0), some (.int x), some (.int y), none] [] (zz_SH, I, J) _
  refine Ev.run [(.aload_n 0, 1), (.getfield 21, 3), (.iload_n 1, 1)] (pc' := 5) (L' := [some (.ref 0), some (.int x), some (.int y), none]) (S' := [.int x, .ref 3]) rfl (by decide +kernel) rfl ?_
  refine Ev.callV0 mX2_isSentence [.int x] [] _ rfl lk_RX6_118 (by decide +kernel) (rfl) rfl rfl rfl (Nat.le_of_ble_eq_true rfl) (c_X2_isSentence I J (aM A) x hC.1.1.2 hW.1.2.1) ?_
  rintro _ _ ⟨rfl, ⟨rfl, h5⟩ | ⟨rfl, h5⟩⟩
  · exact absurd h5 hx2
  · show Ev _ _ _ _ _ 8 [some (.ref 0), some (.int x), some (.int y), none] [.int (nI 0)] (zz_SH, I, J) _
    refine Ev.if_ne (off := 5) (tgt := 13) (by decide +kernel) (by decide) (fun h8 => absurd h8 (by decide)) (fun h8 => ?_)
    refine Ev.run [(.iconst (-1), 1)] (pc' := 12) (L' := [some (.ref 0), some (.int x), some (.int y), none]) (S' := [.int ((-1))]) rfl (by decide +kernel) rfl ?_
    exact Ev.iret rfl (by decide +kernel) (⟨rfl, rfl⟩)

set_option maxRecDepth 100000 in
set_option maxHeartbeats 4000000 in
theorem c_X6_filled_n {sc : Nat × (Nat → Int32)} {d : Nat} (I : Nat → Nat → Int32) (J : Nat → Nat → Int64) (A : zA) (hC : CR 3 I A) (hW : WF A) (k : Nat) (hk : k < aM A) (y : Int32) (hx : fnd A k (aN A) = none) : EvM sc (d + 3) 0 0 mX6_filled [.ref 0, .int (nI k), .int y] (zz_SH, I, J) (zz_is (.int (-5)) (zz_SH, I, J)) := by
  have w1 := hW.1.1
  have w2 := hW.1.2.1
  refine EvM.of (by decide) rfl (Nat.le_of_ble_eq_true rfl) ?_
  show Ev _ _ _ _ _ 0 [some (.ref 0), some (.int (nI k)), some (.int y), none] [] (zz_SH, I, J) _
  refine Ev.run [(.aload_n 0, 1), (.getfield 21, 3), (.iload_n 1, 1)] (pc' := 5) (L' := [some (.ref 0), some (.int (nI k)), some (.int y), none]) (S' := [.int (nI k), .ref 3]) rfl (by decide +kernel) rfl ?_
  refine Ev.callV0 mX2_isSentence [.int (nI k)] [] _ rfl lk_RX6_118 (by decide +kernel) (rfl) rfl rfl rfl (Nat.le_of_ble_eq_true rfl) (c_X2_isSentence I J (aM A) (nI k) hC.1.1.2 hW.1.2.1) ?_
  rintro _ _ ⟨rfl, ⟨rfl, h5⟩ | ⟨rfl, h5⟩⟩
  · show Ev _ _ _ _ _ 8 [some (.ref 0), some (.int (nI k)), some (.int y), none] [.int (nI 1)] (zz_SH, I, J) _
    refine Ev.if_ne (off := 5) (tgt := 13) (by decide +kernel) (by decide) (fun h8 => ?_) (fun h8 => absurd h8 (by decide))
    refine Ev.run [(.aload_n 0, 1), (.getfield 21, 3), (.iload_n 1, 1)] (pc' := 18) (L' := [some (.ref 0), some (.int (nI k)), some (.int y), none]) (S' := [.int (nI k), .ref 3]) rfl (by decide +kernel) rfl ?_
    refine Ev.callV0 mX2_bestFor [.int (nI k)] [] _ rfl lk_RX6_129 (by decide +kernel) (rfl) rfl rfl rfl (Nat.le_of_ble_eq_true rfl) (c_X2_bestFor I J A hC hW k hk) ?_
    rintro _ _ ⟨rfl, rfl⟩
    rw [hx]
    show Ev _ _ _ _ _ 21 [some (.ref 0), some (.int (nI k)), some (.int y), none] [.int ((-6))] (zz_SH, I, J) _
    refine Ev.run [(.istore_n 3, 1), (.iload_n 3, 1), (.bipush (-6), 2)] (pc' := 25) (L' := [some (.ref 0), some (.int (nI k)), some (.int y), some (.int ((-6)))]) (S' := [.int ((-6)), .int ((-6))]) rfl (by decide +kernel) rfl ?_
    refine Ev.icmp_eq (off := 27) (tgt := 52) (by decide +kernel) (by decide) (fun h25 => ?_) (fun h25 => ?_)
    · refine Ev.run [(.bipush (-5), 2)] (pc' := 54) (L' := [some (.ref 0), some (.int (nI k)), some (.int y), some (.int ((-6)))]) (S' := [.int ((-5))]) rfl (by decide +kernel) rfl ?_
      exact Ev.iret rfl (by decide +kernel) (⟨rfl, rfl⟩)
    · exact absurd rfl h25
  · exact absurd ⟨k, hk, rfl⟩ h5

set_option maxRecDepth 100000 in
set_option maxHeartbeats 4000000 in
theorem c_X6_filled_no {sc : Nat × (Nat → Int32)} {d : Nat} (I : Nat → Nat → Int32) (J : Nat → Nat → Int64) (A : zA) (hC : CR 3 I A) (hW : WF A) (k : Nat) (hk : k < aM A) (p v : Nat) (hx : fnd A k (aN A) = some (p, v)) (y : Int32) (hdf : ¬ dfl A k p) : EvM sc (d + 3) 0 0 mX6_filled [.ref 0, .int (nI k), .int y] (zz_SH, I, J) (zz_is (.int (-5)) (zz_SH, I, J)) := by
  have w1 := hW.1.1
  have w2 := hW.1.2.1
  obtain ⟨hp1, hp2⟩ := fnd_ok A k _ p v hx
  have b1 := mtc_le A k p
  have t1 := (hW.2.2.1 k hk).1
  have t2 := (hW.2.1 p hp1).1
  refine EvM.of (by decide) rfl (Nat.le_of_ble_eq_true rfl) ?_
  show Ev _ _ _ _ _ 0 [some (.ref 0), some (.int (nI k)), some (.int y), none] [] (zz_SH, I, J) _
  refine Ev.run [(.aload_n 0, 1), (.getfield 21, 3), (.iload_n 1, 1)] (pc' := 5) (L' := [some (.ref 0), some (.int (nI k)), some (.int y), none]) (S' := [.int (nI k), .ref 3]) rfl (by decide +kernel) rfl ?_
  refine Ev.callV0 mX2_isSentence [.int (nI k)] [] _ rfl lk_RX6_118 (by decide +kernel) (rfl) rfl rfl rfl (Nat.le_of_ble_eq_true rfl) (c_X2_isSentence I J (aM A) (nI k) hC.1.1.2 hW.1.2.1) ?_
  rintro _ _ ⟨rfl, ⟨rfl, h5⟩ | ⟨rfl, h5⟩⟩
  · show Ev _ _ _ _ _ 8 [some (.ref 0), some (.int (nI k)), some (.int y), none] [.int (nI 1)] (zz_SH, I, J) _
    refine Ev.if_ne (off := 5) (tgt := 13) (by decide +kernel) (by decide) (fun h8 => ?_) (fun h8 => absurd h8 (by decide))
    refine Ev.run [(.aload_n 0, 1), (.getfield 21, 3), (.iload_n 1, 1)] (pc' := 18) (L' := [some (.ref 0), some (.int (nI k)), some (.int y), none]) (S' := [.int (nI k), .ref 3]) rfl (by decide +kernel) rfl ?_
    refine Ev.callV0 mX2_bestFor [.int (nI k)] [] _ rfl lk_RX6_129 (by decide +kernel) (rfl) rfl rfl rfl (Nat.le_of_ble_eq_true rfl) (c_X2_bestFor I J A hC hW k hk) ?_
    rintro _ _ ⟨rfl, rfl⟩
    rw [hx]
    show Ev _ _ _ _ _ 21 [some (.ref 0), some (.int (nI k)), some (.int y), none] [.int (nI p)] (zz_SH, I, J) _
    refine Ev.run [(.istore_n 3, 1), (.iload_n 3, 1), (.bipush (-6), 2)] (pc' := 25) (L' := [some (.ref 0), some (.int (nI k)), some (.int y), some (.int (nI p))]) (S' := [.int ((-6)), .int (nI p)]) rfl (by decide +kernel) rfl ?_
    refine Ev.icmp_eq (off := 27) (tgt := 52) (by decide +kernel) (by decide) (fun h25 => absurd h25 (fo_ne (by omega) hx)) (fun h25 => ?_)
    refine Ev.run [(.aload_n 0, 1), (.getfield 21, 3), (.getfield 101, 3), (.iload_n 1, 1)] (pc' := 36) (L' := [some (.ref 0), some (.int (nI k)), some (.int y), some (.int (nI p))]) (S' := [.int (nI k), .ref 7]) rfl (by decide +kernel) rfl ?_
    refine Ev.aald k (by decide +kernel) (rfl) (by decide) (rfl) (by omega) (by first | decide | omega) (zz_a84 k (by omega)) ?_
    refine Ev.run [(.aload_n 0, 1), (.getfield 21, 3), (.getfield 79, 3), (.iload_n 3, 1)] (pc' := 45) (L' := [some (.ref 0), some (.int (nI k)), some (.int y), some (.int (nI p))]) (S' := [.int (nI p), .ref 4, .ref (84 + 2 * k)]) rfl (by decide +kernel) rfl ?_
    refine Ev.aald p (by decide +kernel) (rfl) (by decide) (rfl) (by omega) (by first | decide | omega) (zz_a36 p (by omega)) ?_
    refine Ev.callS0 mX1_likeButForNumbers [.ref (84 + 2 * k), .ref (36 + 4 * p)] [] _ rfl lk_RX6_132 (by decide +kernel) rfl (Nat.le_of_ble_eq_true rfl) (c_X1_likeButForNumbers I J A hC hW k p hk hp1) ?_
    rintro _ _ ⟨rfl, ⟨rfl, h46⟩ | ⟨rfl, h46⟩⟩
    · exact absurd h46 hdf
    · show Ev _ _ _ _ _ 49 [some (.ref 0), some (.int (nI k)), some (.int y), some (.int (nI p))] [.int (nI 0)] (zz_SH, I, J) _
      refine Ev.if_ne (off := 6) (tgt := 55) (by decide +kernel) (by decide) (fun h49 => absurd h49 (by decide)) (fun h49 => ?_)
      refine Ev.run [(.bipush (-5), 2)] (pc' := 54) (L' := [some (.ref 0), some (.int (nI k)), some (.int y), some (.int (nI p))]) (S' := [.int ((-5))]) rfl (by decide +kernel) rfl ?_
      exact Ev.iret rfl (by decide +kernel) (⟨rfl, rfl⟩)
  · exact absurd ⟨k, hk, rfl⟩ h5

set_option maxRecDepth 100000 in
set_option maxHeartbeats 4000000 in
theorem c_X6_filled_len {sc : Nat × (Nat → Int32)} {d : Nat} (I : Nat → Nat → Int32) (J : Nat → Nat → Int64) (A : zA) (hC : CR 3 I A) (hW : WF A) (k : Nat) (hk : k < aM A) (p v : Nat) (hx : fnd A k (aN A) = some (p, v)) (hdf : dfl A k p) : EvM sc (d + 3) 0 0 mX6_filled [.ref 0, .int (nI k), .int ((-1))] (zz_SH, I, J) (zz_is (.int (nI (gz A p))) (zz_SH, I, J)) := by
  have w1 := hW.1.1
  have w2 := hW.1.2.1
  obtain ⟨hp1, hp2⟩ := fnd_ok A k _ p v hx
  have b1 := mtc_le A k p
  have t1 := (hW.2.2.1 k hk).1
  have t2 := (hW.2.1 p hp1).1
  refine EvM.of (by decide) rfl (Nat.le_of_ble_eq_true rfl) ?_
  show Ev _ _ _ _ _ 0 [some (.ref 0), some (.int (nI k)), some (.int ((-1))), none] [] (zz_SH, I, J) _
  refine Ev.run [(.aload_n 0, 1), (.getfield 21, 3), (.iload_n 1, 1)] (pc' := 5) (L' := [some (.ref 0), some (.int (nI k)), some (.int ((-1))), none]) (S' := [.int (nI k), .ref 3]) rfl (by decide +kernel) rfl ?_
  refine Ev.callV0 mX2_isSentence [.int (nI k)] [] _ rfl lk_RX6_118 (by decide +kernel) (rfl) rfl rfl rfl (Nat.le_of_ble_eq_true rfl) (c_X2_isSentence I J (aM A) (nI k) hC.1.1.2 hW.1.2.1) ?_
  rintro _ _ ⟨rfl, ⟨rfl, h5⟩ | ⟨rfl, h5⟩⟩
  · show Ev _ _ _ _ _ 8 [some (.ref 0), some (.int (nI k)), some (.int ((-1))), none] [.int (nI 1)] (zz_SH, I, J) _
    refine Ev.if_ne (off := 5) (tgt := 13) (by decide +kernel) (by decide) (fun h8 => ?_) (fun h8 => absurd h8 (by decide))
    refine Ev.run [(.aload_n 0, 1), (.getfield 21, 3), (.iload_n 1, 1)] (pc' := 18) (L' := [some (.ref 0), some (.int (nI k)), some (.int ((-1))), none]) (S' := [.int (nI k), .ref 3]) rfl (by decide +kernel) rfl ?_
    refine Ev.callV0 mX2_bestFor [.int (nI k)] [] _ rfl lk_RX6_129 (by decide +kernel) (rfl) rfl rfl rfl (Nat.le_of_ble_eq_true rfl) (c_X2_bestFor I J A hC hW k hk) ?_
    rintro _ _ ⟨rfl, rfl⟩
    rw [hx]
    show Ev _ _ _ _ _ 21 [some (.ref 0), some (.int (nI k)), some (.int ((-1))), none] [.int (nI p)] (zz_SH, I, J) _
    refine Ev.run [(.istore_n 3, 1), (.iload_n 3, 1), (.bipush (-6), 2)] (pc' := 25) (L' := [some (.ref 0), some (.int (nI k)), some (.int ((-1))), some (.int (nI p))]) (S' := [.int ((-6)), .int (nI p)]) rfl (by decide +kernel) rfl ?_
    refine Ev.icmp_eq (off := 27) (tgt := 52) (by decide +kernel) (by decide) (fun h25 => absurd h25 (fo_ne (by omega) hx)) (fun h25 => ?_)
    refine Ev.run [(.aload_n 0, 1), (.getfield 21, 3), (.getfield 101, 3), (.iload_n 1, 1)] (pc' := 36) (L' := [some (.ref 0), some (.int (nI k)), some (.int ((-1))), some (.int (nI p))]) (S' := [.int (nI k), .ref 7]) rfl (by decide +kernel) rfl ?_
    refine Ev.aald k (by decide +kernel) (rfl) (by decide) (rfl) (by omega) (by first | decide | omega) (zz_a84 k (by omega)) ?_
    refine Ev.run [(.aload_n 0, 1), (.getfield 21, 3), (.getfield 79, 3), (.iload_n 3, 1)] (pc' := 45) (L' := [some (.ref 0), some (.int (nI k)), some (.int ((-1))), some (.int (nI p))]) (S' := [.int (nI p), .ref 4, .ref (84 + 2 * k)]) rfl (by decide +kernel) rfl ?_
    refine Ev.aald p (by decide +kernel) (rfl) (by decide) (rfl) (by omega) (by first | decide | omega) (zz_a36 p (by omega)) ?_
    refine Ev.callS0 mX1_likeButForNumbers [.ref (84 + 2 * k), .ref (36 + 4 * p)] [] _ rfl lk_RX6_132 (by decide +kernel) rfl (Nat.le_of_ble_eq_true rfl) (c_X1_likeButForNumbers I J A hC hW k p hk hp1) ?_
    rintro _ _ ⟨rfl, ⟨rfl, h46⟩ | ⟨rfl, h46⟩⟩
    · show Ev _ _ _ _ _ 49 [some (.ref 0), some (.int (nI k)), some (.int ((-1))), some (.int (nI p))] [.int (nI 1)] (zz_SH, I, J) _
      refine Ev.if_ne (off := 6) (tgt := 55) (by decide +kernel) (by decide) (fun h49 => ?_) (fun h49 => absurd h49 (by decide))
      refine Ev.run [(.iload_n 2, 1), (.iconst (-1), 1)] (pc' := 57) (L' := [some (.ref 0), some (.int (nI k)), some (.int ((-1))), some (.int (nI p))]) (S' := [.int ((-1)), .int ((-1))]) rfl (by decide +kernel) rfl ?_
      refine Ev.icmp_ne (off := 16) (tgt := 73) (by decide +kernel) (by decide) (fun h57 => absurd h57 (by decide)) (fun h57 => ?_)
      refine Ev.run [(.aload_n 0, 1), (.getfield 21, 3), (.getfield 87, 3), (.iload_n 3, 1)] (pc' := 68) (L' := [some (.ref 0), some (.int (nI k)), some (.int ((-1))), some (.int (nI p))]) (S' := [.int (nI p), .ref 5]) rfl (by decide +kernel) rfl ?_
      refine Ev.aald p (by decide +kernel) (rfl) (by decide) (rfl) (by omega) (by first | decide | omega) (zz_a38 p (by omega)) ?_
      refine Ev.getf (idx := 58) (x := none) (v := .int (I (38 + 4 * p) 1)) rfl rfl (by decide +kernel) ((zz_r38 p (by omega)).1) rfl rfl ?_
      rw [show I (38 + 4 * p) 1 = nI (gz A p) from (hC.1.2.1 p hp1).2.2.1]
      exact Ev.iret rfl (by decide +kernel) (⟨rfl, rfl⟩)
    · exact absurd hdf h46
  · exact absurd ⟨k, hk, rfl⟩ h5

set_option maxRecDepth 100000 in
set_option maxHeartbeats 4000000 in
theorem c_X6_filled_out {sc : Nat × (Nat → Int32)} {d : Nat} (I : Nat → Nat → Int32) (J : Nat → Nat → Int64) (A : zA) (hC : CR 3 I A) (hW : WF A) (k : Nat) (hk : k < aM A) (p v : Nat) (hx : fnd A k (aN A) = some (p, v)) (y : Int32) (hdf : dfl A k p) (hy : ¬ zz_ix y (gz A p)) (hy1 : ¬ y = (-1)) : EvM sc (d + 3) 0 0 mX6_filled [.ref 0, .int (nI k), .int y] (zz_SH, I, J) (zz_is (.int (-6)) (zz_SH, I, J)) := by
  have w1 := hW.1.1
  have w2 := hW.1.2.1
  obtain ⟨hp1, hp2⟩ := fnd_ok A k _ p v hx
  have b1 := mtc_le A k p
  have t1 := (hW.2.2.1 k hk).1
  have t2 := (hW.2.1 p hp1).1
  refine EvM.of (by decide) rfl (Nat.le_of_ble_eq_true rfl) ?_
  show Ev _ _ _ _ _ 0 [some (.ref 0), some (.int (nI k)), some (.int y), none] [] (zz_SH, I, J) _
  refine Ev.run [(.aload_n 0, 1), (.getfield 21, 3), (.iload_n 1, 1)] (pc' := 5) (L' := [some (.ref 0), some (.int (nI k)), some (.int y), none]) (S' := [.int (nI k), .ref 3]) rfl (by decide +kernel) rfl ?_
  refine Ev.callV0 mX2_isSentence [.int (nI k)] [] _ rfl lk_RX6_118 (by decide +kernel) (rfl) rfl rfl rfl (Nat.le_of_ble_eq_true rfl) (c_X2_isSentence I J (aM A) (nI k) hC.1.1.2 hW.1.2.1) ?_
  rintro _ _ ⟨rfl, ⟨rfl, h5⟩ | ⟨rfl, h5⟩⟩
  · show Ev _ _ _ _ _ 8 [some (.ref 0), some (.int (nI k)), some (.int y), none] [.int (nI 1)] (zz_SH, I, J) _
    refine Ev.if_ne (off := 5) (tgt := 13) (by decide +kernel) (by decide) (fun h8 => ?_) (fun h8 => absurd h8 (by decide))
    refine Ev.run [(.aload_n 0, 1), (.getfield 21, 3), (.iload_n 1, 1)] (pc' := 18) (L' := [some (.ref 0), some (.int (nI k)), some (.int y), none]) (S' := [.int (nI k), .ref 3]) rfl (by decide +kernel) rfl ?_
    refine Ev.callV0 mX2_bestFor [.int (nI k)] [] _ rfl lk_RX6_129 (by decide +kernel) (rfl) rfl rfl rfl (Nat.le_of_ble_eq_true rfl) (c_X2_bestFor I J A hC hW k hk) ?_
    rintro _ _ ⟨rfl, rfl⟩
    rw [hx]
    show Ev _ _ _ _ _ 21 [some (.ref 0), some (.int (nI k)), some (.int y), none] [.int (nI p)] (zz_SH, I, J) _
    refine Ev.run [(.istore_n 3, 1), (.iload_n 3, 1), (.bipush (-6), 2)] (pc' := 25) (L' := [some (.ref 0), some (.int (nI k)), some (.int y), some (.int (nI p))]) (S' := [.int ((-6)), .int (nI p)]) rfl (by decide +kernel) rfl ?_
    refine Ev.icmp_eq (off := 27) (tgt := 52) (by decide +kernel) (by decide) (fun h25 => absurd h25 (fo_ne (by omega) hx)) (fun h25 => ?_)
    refine Ev.run [(.aload_n 0, 1), (.getfield 21, 3), (.getfield 101, 3), (.iload_n 1, 1)] (pc' := 36) (L' := [some (.ref 0), some (.int (nI k)), some (.int y), some (.int (nI p))]) (S' := [.int (nI k), .ref 7]) rfl (by decide +kernel) rfl ?_
    refine Ev.aald k (by decide +kernel) (rfl) (by decide) (rfl) (by omega) (by first | decide | omega) (zz_a84 k (by omega)) ?_
    refine Ev.run [(.aload_n 0, 1), (.getfield 21, 3), (.getfield 79, 3), (.iload_n 3, 1)] (pc' := 45) (L' := [some (.ref 0), some (.int (nI k)), some (.int y), some (.int (nI p))]) (S' := [.int (nI p), .ref 4, .ref (84 + 2 * k)]) rfl (by decide +kernel) rfl ?_
    refine Ev.aald p (by decide +kernel) (rfl) (by decide) (rfl) (by omega) (by first | decide | omega) (zz_a36 p (by omega)) ?_
    refine Ev.callS0 mX1_likeButForNumbers [.ref (84 + 2 * k), .ref (36 + 4 * p)] [] _ rfl lk_RX6_132 (by decide +kernel) rfl (Nat.le_of_ble_eq_true rfl) (c_X1_likeButForNumbers I J A hC hW k p hk hp1) ?_
    rintro _ _ ⟨rfl, ⟨rfl, h46⟩ | ⟨rfl, h46⟩⟩
    · show Ev _ _ _ _ _ 49 [some (.ref 0), some (.int (nI k)), some (.int y), some (.int (nI p))] [.int (nI 1)] (zz_SH, I, J) _
      refine Ev.if_ne (off := 6) (tgt := 55) (by decide +kernel) (by decide) (fun h49 => ?_) (fun h49 => absurd h49 (by decide))
      refine Ev.run [(.iload_n 2, 1), (.iconst (-1), 1)] (pc' := 57) (L' := [some (.ref 0), some (.int (nI k)), some (.int y), some (.int (nI p))]) (S' := [.int ((-1)), .int y]) rfl (by decide +kernel) rfl ?_
      refine Ev.icmp_ne (off := 16) (tgt := 73) (by decide +kernel) (by decide) (fun h57 => ?_) (fun h57 => absurd h57 hy1)
      refine Ev.run [(.aload_n 0, 1), (.getfield 21, 3), (.getfield 87, 3), (.iload_n 3, 1)] (pc' := 81) (L' := [some (.ref 0), some (.int (nI k)), some (.int y), some (.int (nI p))]) (S' := [.int (nI p), .ref 5]) rfl (by decide +kernel) rfl ?_
      refine Ev.aald p (by decide +kernel) (rfl) (by decide) (rfl) (by omega) (by first | decide | omega) (zz_a38 p (by omega)) ?_
      refine Ev.run [(.iload_n 2, 1)] (pc' := 83) (L' := [some (.ref 0), some (.int (nI k)), some (.int y), some (.int (nI p))]) (S' := [.int y, .ref (38 + 4 * p)]) rfl (by decide +kernel) rfl ?_
      refine Ev.callV0 mX4_at [.int y] [] _ rfl lk_RX6_107 (by decide +kernel) ((zz_r38 p (by omega)).1) rfl rfl rfl (Nat.le_of_ble_eq_true rfl) (c_X4_at I J (38 + 4 * p) 12 y (zz_r38 p (by omega))) ?_
      rintro _ _ ⟨rfl, rfl⟩
      rw [show zz_rat I (38 + 4 * p) 12 y = (-6) from zz_rat_no (hC.1.2.1 p hp1).2.2.1 (by omega) hy]
      show Ev _ _ _ _ _ 86 [some (.ref 0), some (.int (nI k)), some (.int y), some (.int (nI p))] [.int ((-6))] (zz_SH, I, J) _
      refine Ev.run [(.aload_n 0, 1), (.getfield 21, 3), (.getfield 79, 3), (.iload_n 3, 1)] (pc' := 94) (L' := [some (.ref 0), some (.int (nI k)), some (.int y), some (.int (nI p))]) (S' := [.int (nI p), .ref 4, .int ((-6))]) rfl (by decide +kernel) rfl ?_
      refine Ev.aald p (by decide +kernel) (rfl) (by decide) (rfl) (by omega) (by first | decide | omega) (zz_a36 p (by omega)) ?_
      refine Ev.run [(.aload_n 0, 1), (.getfield 21, 3), (.getfield 101, 3), (.iload_n 1, 1)] (pc' := 103) (L' := [some (.ref 0), some (.int (nI k)), some (.int y), some (.int (nI p))]) (S' := [.int (nI k), .ref 7, .ref (36 + 4 * p), .int ((-6))]) rfl (by decide +kernel) rfl ?_
      refine Ev.aald k (by decide +kernel) (rfl) (by decide) (rfl) (by omega) (by first | decide | omega) (zz_a84 k (by omega)) ?_
      refine Ev.callS0 mX6_signFilled [.int ((-6)), .ref (36 + 4 * p), .ref (84 + 2 * k)] [] _ rfl lk_RX6_136 (by decide +kernel) rfl (Nat.le_of_ble_eq_true rfl) (c_X6_signFilled_o I J _ _) ?_
      rintro _ _ ⟨rfl, rfl⟩
      show Ev _ _ _ _ _ 107 [some (.ref 0), some (.int (nI k)), some (.int y), some (.int (nI p))] [.int ((-6))] (zz_SH, I, J) _
      exact Ev.iret rfl (by decide +kernel) (⟨rfl, rfl⟩)
    · exact absurd hdf h46
  · exact absurd ⟨k, hk, rfl⟩ h5

set_option maxRecDepth 100000 in
set_option maxHeartbeats 4000000 in
theorem c_X6_filled_in {sc : Nat × (Nat → Int32)} {d : Nat} (I : Nat → Nat → Int32) (J : Nat → Nat → Int64) (A : zA) (hC : CR 3 I A) (hW : WF A) (k : Nat) (hk : k < aM A) (p v : Nat) (hx : fnd A k (aN A) = some (p, v)) (hdf : dfl A k p) (j0 : Nat) (hj0 : j0 < gz A p) : EvM sc (d + 3) 0 0 mX6_filled [.ref 0, .int (nI k), .int (nI j0)] (zz_SH, I, J) (zz_is (.int (nI (if 48 ≤ gg A p j0 ∧ gg A p j0 ≤ 57 then lkf (ff A p) (tt A k) (gg A p j0) 0 (fz A p) else gg A p j0))) (zz_SH, I, J)) := by
  have w1 := hW.1.1
  have w2 := hW.1.2.1
  obtain ⟨hp1, hp2⟩ := fnd_ok A k _ p v hx
  have b1 := mtc_le A k p
  have t1 := (hW.2.2.1 k hk).1
  have t2 := (hW.2.1 p hp1).1
  refine EvM.of (by decide) rfl (Nat.le_of_ble_eq_true rfl) ?_
  show Ev _ _ _ _ _ 0 [some (.ref 0), some (.int (nI k)), some (.int (nI j0)), none] [] (zz_SH, I, J) _
  refine Ev.run [(.aload_n 0, 1), (.getfield 21, 3), (.iload_n 1, 1)] (pc' := 5) (L' := [some (.ref 0), some (.int (nI k)), some (.int (nI j0)), none]) (S' := [.int (nI k), .ref 3]) rfl (by decide +kernel) rfl ?_
  refine Ev.callV0 mX2_isSentence [.int (nI k)] [] _ rfl lk_RX6_118 (by decide +kernel) (rfl) rfl rfl rfl (Nat.le_of_ble_eq_true rfl) (c_X2_isSentence I J (aM A) (nI k) hC.1.1.2 hW.1.2.1) ?_
  rintro _ _ ⟨rfl, ⟨rfl, h5⟩ | ⟨rfl, h5⟩⟩
  · show Ev _ _ _ _ _ 8 [some (.ref 0), some (.int (nI k)), some (.int (nI j0)), none] [.int (nI 1)] (zz_SH, I, J) _
    refine Ev.if_ne (off := 5) (tgt := 13) (by decide +kernel) (by decide) (fun h8 => ?_) (fun h8 => absurd h8 (by decide))
    refine Ev.run [(.aload_n 0, 1), (.getfield 21, 3), (.iload_n 1, 1)] (pc' := 18) (L' := [some (.ref 0), some (.int (nI k)), some (.int (nI j0)), none]) (S' := [.int (nI k), .ref 3]) rfl (by decide +kernel) rfl ?_
    refine Ev.callV0 mX2_bestFor [.int (nI k)] [] _ rfl lk_RX6_129 (by decide +kernel) (rfl) rfl rfl rfl (Nat.le_of_ble_eq_true rfl) (c_X2_bestFor I J A hC hW k hk) ?_
    rintro _ _ ⟨rfl, rfl⟩
    rw [hx]
    show Ev _ _ _ _ _ 21 [some (.ref 0), some (.int (nI k)), some (.int (nI j0)), none] [.int (nI p)] (zz_SH, I, J) _
    refine Ev.run [(.istore_n 3, 1), (.iload_n 3, 1), (.bipush (-6), 2)] (pc' := 25) (L' := [some (.ref 0), some (.int (nI k)), some (.int (nI j0)), some (.int (nI p))]) (S' := [.int ((-6)), .int (nI p)]) rfl (by decide +kernel) rfl ?_
    refine Ev.icmp_eq (off := 27) (tgt := 52) (by decide +kernel) (by decide) (fun h25 => absurd h25 (fo_ne (by omega) hx)) (fun h25 => ?_)
    refine Ev.run [(.aload_n 0, 1), (.getfield 21, 3), (.getfield 101, 3), (.iload_n 1, 1)] (pc' := 36) (L' := [some (.ref 0), some (.int (nI k)), some (.int (nI j0)), some (.int (nI p))]) (S' := [.int (nI k), .ref 7]) rfl (by decide +kernel) rfl ?_
    refine Ev.aald k (by decide +kernel) (rfl) (by decide) (rfl) (by omega) (by first | decide | omega) (zz_a84 k (by omega)) ?_
    refine Ev.run [(.aload_n 0, 1), (.getfield 21, 3), (.getfield 79, 3), (.iload_n 3, 1)] (pc' := 45) (L' := [some (.ref 0), some (.int (nI k)), some (.int (nI j0)), some (.int (nI p))]) (S' := [.int (nI p), .ref 4, .ref (84 + 2 * k)]) rfl (by decide +kernel) rfl ?_
    refine Ev.aald p (by decide +kernel) (rfl) (by decide) (rfl) (by omega) (by first | decide | omega) (zz_a36 p (by omega)) ?_
    refine Ev.callS0 mX1_likeButForNumbers [.ref (84 + 2 * k), .ref (36 + 4 * p)] [] _ rfl lk_RX6_132 (by decide +kernel) rfl (Nat.le_of_ble_eq_true rfl) (c_X1_likeButForNumbers I J A hC hW k p hk hp1) ?_
    rintro _ _ ⟨rfl, ⟨rfl, h46⟩ | ⟨rfl, h46⟩⟩
    · show Ev _ _ _ _ _ 49 [some (.ref 0), some (.int (nI k)), some (.int (nI j0)), some (.int (nI p))] [.int (nI 1)] (zz_SH, I, J) _
      refine Ev.if_ne (off := 6) (tgt := 55) (by decide +kernel) (by decide) (fun h49 => ?_) (fun h49 => absurd h49 (by decide))
      refine Ev.run [(.iload_n 2, 1), (.iconst (-1), 1)] (pc' := 57) (L' := [some (.ref 0), some (.int (nI k)), some (.int (nI j0)), some (.int (nI p))]) (S' := [.int ((-1)), .int (nI j0)]) rfl (by decide +kernel) rfl ?_
      refine Ev.icmp_ne (off := 16) (tgt := 73) (by decide +kernel) (by decide) (fun h57 => ?_) (fun h57 => absurd h57 (zz_nm j0 (by omega)))
      refine Ev.run [(.aload_n 0, 1), (.getfield 21, 3), (.getfield 87, 3), (.iload_n 3, 1)] (pc' := 81) (L' := [some (.ref 0), some (.int (nI k)), some (.int (nI j0)), some (.int (nI p))]) (S' := [.int (nI p), .ref 5]) rfl (by decide +kernel) rfl ?_
      refine Ev.aald p (by decide +kernel) (rfl) (by decide) (rfl) (by omega) (by first | decide | omega) (zz_a38 p (by omega)) ?_
      refine Ev.run [(.iload_n 2, 1)] (pc' := 83) (L' := [some (.ref 0), some (.int (nI k)), some (.int (nI j0)), some (.int (nI p))]) (S' := [.int (nI j0), .ref (38 + 4 * p)]) rfl (by decide +kernel) rfl ?_
      refine Ev.callV0 mX4_at [.int (nI j0)] [] _ rfl lk_RX6_107 (by decide +kernel) ((zz_r38 p (by omega)).1) rfl rfl rfl (Nat.le_of_ble_eq_true rfl) (c_X4_at I J (38 + 4 * p) 12 (nI j0) (zz_r38 p (by omega))) ?_
      rintro _ _ ⟨rfl, rfl⟩
      rw [show zz_rat I (38 + 4 * p) 12 (nI j0) = nI (gg A p j0) from zz_rf.at (hC.1.2.1 p hp1).2.2 t2.2.2.2 (by decide) hj0]
      show Ev _ _ _ _ _ 86 [some (.ref 0), some (.int (nI k)), some (.int (nI j0)), some (.int (nI p))] [.int (nI (gg A p j0))] (zz_SH, I, J) _
      refine Ev.run [(.aload_n 0, 1), (.getfield 21, 3), (.getfield 79, 3), (.iload_n 3, 1)] (pc' := 94) (L' := [some (.ref 0), some (.int (nI k)), some (.int (nI j0)), some (.int (nI p))]) (S' := [.int (nI p), .ref 4, .int (nI (gg A p j0))]) rfl (by decide +kernel) rfl ?_
      refine Ev.aald p (by decide +kernel) (rfl) (by decide) (rfl) (by omega) (by first | decide | omega) (zz_a36 p (by omega)) ?_
      refine Ev.run [(.aload_n 0, 1), (.getfield 21, 3), (.getfield 101, 3), (.iload_n 1, 1)] (pc' := 103) (L' := [some (.ref 0), some (.int (nI k)), some (.int (nI j0)), some (.int (nI p))]) (S' := [.int (nI k), .ref 7, .ref (36 + 4 * p), .int (nI (gg A p j0))]) rfl (by decide +kernel) rfl ?_
      refine Ev.aald k (by decide +kernel) (rfl) (by decide) (rfl) (by omega) (by first | decide | omega) (zz_a84 k (by omega)) ?_
      refine Ev.callS0 mX6_signFilled [.int (nI (gg A p j0)), .ref (36 + 4 * p), .ref (84 + 2 * k)] [] _ rfl lk_RX6_136 (by decide +kernel) rfl (Nat.le_of_ble_eq_true rfl) (c_X6_signFilled I J A hC hW k p hk hp1 hdf.1 (gg A p j0) (hW.gg hp1 j0 hj0)) ?_
      rintro _ _ ⟨rfl, rfl⟩
      show Ev _ _ _ _ _ 107 [some (.ref 0), some (.int (nI k)), some (.int (nI j0)), some (.int (nI p))] [.int (nI (if 48 ≤ gg A p j0 ∧ gg A p j0 ≤ 57 then lkf (ff A p) (tt A k) (gg A p j0) 0 (fz A p) else gg A p j0))] (zz_SH, I, J) _
      exact Ev.iret rfl (by decide +kernel) (⟨rfl, rfl⟩)
    · exact absurd hdf h46
  · exact absurd ⟨k, hk, rfl⟩ h5
