/-! ===== the model: prices, found, filled ===== -/
def bfd (A : zA) (k : Nat) : Nat := match fnd A k (aN A) with
  | none => 4
  | some (_, v) => bnd v
def prc (A : zA) (k : Nat) : Nat := tz A k * rt A (bfd A k)
def prs (A : zA) : Nat → Nat
  | 0 => 0
  | n + 1 => prs A n + prc A n
theorem bnd_lt (m : Nat) : bnd m < 5 := by
  unfold bnd
  repeat' split
  all_goals omega
theorem bfd_lt (A : zA) (k : Nat) : bfd A k < 5 := by
  unfold bfd
  split
  · decide
  · exact bnd_lt _
theorem prc_le {A : zA} (hW : WF A) {k : Nat} (hk : k < aM A) : prc A k ≤ 1188 := by
  have h1 := (hW.2.2.1 k hk).1.2
  have h2 := hW.2.2.2.1 (bfd A k) (bfd_lt A k)
  exact Nat.le_trans (Nat.mul_le_mul h1 h2) (by decide)
theorem prs_le {A : zA} (hW : WF A) : ∀ n, n ≤ aM A → prs A n ≤ 1188 * n
  | 0, _ => Nat.le_refl _
  | n + 1, h => by
    have := prs_le hW n (by omega)
    have := prc_le hW (k := n) (by omega)
    rw [prs]
    omega
def dfl (A : zA) (k p : Nat) : Prop := tz A k = fz A p ∧ ∀ j, j < tz A k → chg (tt A k j) (ff A p j) < 4
def lkf (f t : Nat → Nat) (s : Nat) : Nat → Nat → Nat
  | _, 0 => s
  | j, n + 1 => if f j = s then t j else lkf f t s (j + 1) n

theorem zz_nm (k : Nat) (hk : k < 2 ^ 31) : ¬ nI k = (-1) := by
  intro h
  have h1 := congrArg Int32.toInt h
  rw [nI_toInt hk] at h1
  have h2 : (-1 : Int32).toInt = -1 := by decide
  omega

set_option maxRecDepth 100000 in
set_option maxHeartbeats 4000000 in
theorem c_X7_band {sc : Nat × (Nat → Int32)} {d : Nat} (I : Nat → Nat → Int32) (J : Nat → Nat → Int64) (m : Nat) (hm : m < 1000) : EvM sc (d) 0 0 mX7_band [.int (nI m)] (zz_SH, I, J) (zz_is (.int (nI (bnd m))) (zz_SH, I, J)) := by
  refine EvM.of (by decide) rfl (Nat.le_of_ble_eq_true rfl) ?_
  show Ev _ _ _ _ _ 0 [some (.int (nI m))] [] (zz_SH, I, J) _
  refine Ev.run [(.iload_n 0, 1), (.bipush 100, 2)] (pc' := 3) (L' := [some (.int (nI m))]) (S' := [.int (nI 100), .int (nI m)]) rfl (by decide +kernel) rfl ?_
  refine Ev.icmp_le (off := 7) (tgt := 10) (by decide +kernel) (by decide) (fun h3 => ?_) (fun h3 => ?_)
  · have h3 : m ≤ 100 := zz_bG'_t (by omega) (by omega) h3
    refine Ev.run [(.iload_n 0, 1), (.bipush 100, 2)] (pc' := 13) (L' := [some (.int (nI m))]) (S' := [.int (nI 100), .int (nI m)]) rfl (by decide +kernel) rfl ?_
    refine Ev.icmp_ne (off := 7) (tgt := 20) (by decide +kernel) (by decide) (fun h13 => ?_) (fun h13 => ?_)
    · have h13 : ¬ m = 100 := zz_bE_f (by omega) (by omega) h13
      refine Ev.run [(.iload_n 0, 1), (.bipush 85, 2)] (pc' := 23) (L' := [some (.int (nI m))]) (S' := [.int (nI 85), .int (nI m)]) rfl (by decide +kernel) rfl ?_
      refine Ev.icmp_lt (off := 7) (tgt := 30) (by decide +kernel) (by decide) (fun h23 => ?_) (fun h23 => ?_)
      · have h23 : m < 85 := zz_bL_t (by omega) (by omega) h23
        refine Ev.run [(.iload_n 0, 1), (.bipush 60, 2)] (pc' := 33) (L' := [some (.int (nI m))]) (S' := [.int (nI 60), .int (nI m)]) rfl (by decide +kernel) rfl ?_
        refine Ev.icmp_lt (off := 7) (tgt := 40) (by decide +kernel) (by decide) (fun h33 => ?_) (fun h33 => ?_)
        · have h33 : m < 60 := zz_bL_t (by omega) (by omega) h33
          refine Ev.run [(.iconst 4, 1)] (pc' := 41) (L' := [some (.int (nI m))]) (S' := [.int (nI 4)]) rfl (by decide +kernel) rfl ?_
          exact Ev.iret rfl (by decide +kernel) (⟨by rw [bnd, if_neg (by omega), if_neg h13, if_neg (by omega), if_neg (by omega)], rfl⟩)
        · have h33 : m ≥ 60 := zz_bL_f (by omega) (by omega) h33
          refine Ev.run [(.iconst 3, 1)] (pc' := 37) (L' := [some (.int (nI m))]) (S' := [.int (nI 3)]) rfl (by decide +kernel) rfl ?_
          refine Ev.goto (off := 4) (tgt := 41) (by decide +kernel) (by decide) ?_
          exact Ev.iret rfl (by decide +kernel) (⟨by rw [bnd, if_neg (by omega), if_neg h13, if_neg (by omega), if_pos h33], rfl⟩)
      · have h23 : m ≥ 85 := zz_bL_f (by omega) (by omega) h23
        refine Ev.run [(.iconst 2, 1)] (pc' := 27) (L' := [some (.int (nI m))]) (S' := [.int (nI 2)]) rfl (by decide +kernel) rfl ?_
        refine Ev.goto (off := 14) (tgt := 41) (by decide +kernel) (by decide) ?_
        exact Ev.iret rfl (by decide +kernel) (⟨by rw [bnd, if_neg (by omega), if_neg h13, if_pos h23], rfl⟩)
    · have h13 : m = 100 := zz_bE_t (by omega) (by omega) h13
      refine Ev.run [(.iconst 1, 1)] (pc' := 17) (L' := [some (.int (nI m))]) (S' := [.int (nI 1)]) rfl (by decide +kernel) rfl ?_
      refine Ev.goto (off := 24) (tgt := 41) (by decide +kernel) (by decide) ?_
      exact Ev.iret rfl (by decide +kernel) (⟨by rw [bnd, if_neg (by omega), if_pos h13], rfl⟩)
  · have h3 : m > 100 := zz_bG'_f (by omega) (by omega) h3
    refine Ev.run [(.iconst 0, 1)] (pc' := 7) (L' := [some (.int (nI m))]) (S' := [.int (nI 0)]) rfl (by decide +kernel) rfl ?_
    refine Ev.goto (off := 34) (tgt := 41) (by decide +kernel) (by decide) ?_
    exact Ev.iret rfl (by decide +kernel) (⟨by rw [bnd, if_pos h3], rfl⟩)

set_option maxRecDepth 100000 in
set_option maxHeartbeats 4000000 in
theorem c_X7_priceOf_n {sc : Nat × (Nat → Int32)} {d : Nat} (I : Nat → Nat → Int32) (J : Nat → Nat → Int64) (A : zA) (hV : MV (zVm I) A) (hW : WF A) (k : Nat) (hk : k < aM A) (hx : fnd A k (aN A) = none) : EvM sc (d + 7) 0 0 mX7_priceOf [.ref 359, .int (nI k)] (zz_SH, I, J) (fun r σ => r = some (.int (nI (prc A k))) ∧ ∃ I' : Nat → Nat → Int32, zS2 I I' ∧ σ = (zz_SH, I', J)) := by
  have w1 := hW.1.1
  have w2 := hW.1.2.1
  refine EvM.of (by decide) rfl (Nat.le_of_ble_eq_true rfl) ?_
  show Ev _ _ _ _ _ 0 [some (.ref 359), some (.int (nI k)), none] [] (zz_SH, I, J) _
  refine Ev.run [(.aload_n 0, 1), (.iload_n 1, 1)] (pc' := 2) (L' := [some (.ref 359), some (.int (nI k)), none]) (S' := [.int (nI k), .ref 359]) rfl (by decide +kernel) rfl ?_
  refine Ev.callV0 mX7_foundOf [.int (nI k)] [] _ rfl lk_RX7_130 (by decide +kernel) (rfl) rfl rfl rfl (Nat.le_of_ble_eq_true rfl) (c_X7_foundOf I J A hV hW k hk) ?_
  rintro _ _ ⟨rfl, I1, hs_I1, hf, rfl⟩
  rw [hx] at hf
  rw [hx]
  have hV1 := hs_I1.mv hV
  show Ev _ _ _ _ _ 5 [some (.ref 359), some (.int (nI k)), none] [.int ((-6))] (zz_SH, I1, J) _
  refine Ev.run [(.istore_n 2, 1), (.aload_n 0, 1), (.getfield 28, 3), (.iload_n 1, 1)] (pc' := 11) (L' := [some (.ref 359), some (.int (nI k)), some (.int ((-6)))]) (S' := [.int (nI k), .ref 366]) rfl (by decide +kernel) rfl ?_
  refine Ev.iald k (by decide +kernel) (rfl) (rfl) (by omega) (by first | decide | omega) ?_
  dsimp only
  rw [show I1 366 k = nI (tz A k) from (hV1.2.2.1 k hk).1]
  refine Ev.run [(.aload_n 0, 1), (.getfield 34, 3), (.iload_n 2, 1)] (pc' := 17) (L' := [some (.ref 359), some (.int (nI k)), some (.int ((-6)))]) (S' := [.int ((-6)), .ref 368, .int (nI (tz A k))]) rfl (by decide +kernel) rfl ?_
  refine Ev.if_ge (off := 7) (tgt := 24) (by decide +kernel) (by decide) (fun h17 => absurd h17 (by decide)) (fun h17 => ?_)
  refine Ev.run [(.iconst 4, 1)] (pc' := 21) (L' := [some (.ref 359), some (.int (nI k)), some (.int ((-6)))]) (S' := [.int (nI 4), .ref 368, .int (nI (tz A k))]) rfl (by decide +kernel) rfl ?_
  refine Ev.goto (off := 10) (tgt := 31) (by decide +kernel) (by decide) ?_
  refine Ev.iald 4 (by decide +kernel) (rfl) (rfl) (by omega) (by first | decide | omega) ?_
  dsimp only
  rw [show I1 368 4 = nI (rt A 4) from hV1.2.2.2.1 4 (by decide)]
  refine Ev.run [(.imul, 1)] (pc' := 33) (L' := [some (.ref 359), some (.int (nI k)), some (.int ((-6)))]) (S' := [.int (nI (tz A k) * nI (rt A 4))]) rfl (by decide +kernel) rfl ?_
  rw [pk_mul (tz A k) (rt A 4)]
  exact Ev.iret rfl (by decide +kernel) (⟨by rw [prc, bfd, hx], I1, hs_I1, rfl⟩)

set_option maxRecDepth 100000 in
set_option maxHeartbeats 4000000 in
theorem c_X7_priceOf_s {sc : Nat × (Nat → Int32)} {d : Nat} (I : Nat → Nat → Int32) (J : Nat → Nat → Int64) (A : zA) (hV : MV (zVm I) A) (hW : WF A) (k : Nat) (hk : k < aM A) (p v : Nat) (hx : fnd A k (aN A) = some (p, v)) : EvM sc (d + 7) 0 0 mX7_priceOf [.ref 359, .int (nI k)] (zz_SH, I, J) (fun r σ => r = some (.int (nI (prc A k))) ∧ ∃ I' : Nat → Nat → Int32, zS2 I I' ∧ σ = (zz_SH, I', J)) := by
  have w1 := hW.1.1
  have w2 := hW.1.2.1
  obtain ⟨hp1, hp2⟩ := fnd_ok A k _ p v hx
  refine EvM.of (by decide) rfl (Nat.le_of_ble_eq_true rfl) ?_
  show Ev _ _ _ _ _ 0 [some (.ref 359), some (.int (nI k)), none] [] (zz_SH, I, J) _
  refine Ev.run [(.aload_n 0, 1), (.iload_n 1, 1)] (pc' := 2) (L' := [some (.ref 359), some (.int (nI k)), none]) (S' := [.int (nI k), .ref 359]) rfl (by decide +kernel) rfl ?_
  refine Ev.callV0 mX7_foundOf [.int (nI k)] [] _ rfl lk_RX7_130 (by decide +kernel) (rfl) rfl rfl rfl (Nat.le_of_ble_eq_true rfl) (c_X7_foundOf I J A hV hW k hk) ?_
  rintro _ _ ⟨rfl, I1, hs_I1, hf, rfl⟩
  rw [hx] at hf
  rw [hx]
  have hV1 := hs_I1.mv hV
  have hf : I1 359 17 = nI v := hf
  show Ev _ _ _ _ _ 5 [some (.ref 359), some (.int (nI k)), none] [.int (nI p)] (zz_SH, I1, J) _
  refine Ev.run [(.istore_n 2, 1), (.aload_n 0, 1), (.getfield 28, 3), (.iload_n 1, 1)] (pc' := 11) (L' := [some (.ref 359), some (.int (nI k)), some (.int (nI p))]) (S' := [.int (nI k), .ref 366]) rfl (by decide +kernel) rfl ?_
  refine Ev.iald k (by decide +kernel) (rfl) (rfl) (by omega) (by first | decide | omega) ?_
  dsimp only
  rw [show I1 366 k = nI (tz A k) from (hV1.2.2.1 k hk).1]
  refine Ev.run [(.aload_n 0, 1), (.getfield 34, 3), (.iload_n 2, 1)] (pc' := 17) (L' := [some (.ref 359), some (.int (nI k)), some (.int (nI p))]) (S' := [.int (nI p), .ref 368, .int (nI (tz A k))]) rfl (by decide +kernel) rfl ?_
  refine Ev.if_ge (off := 7) (tgt := 24) (by decide +kernel) (by decide) (fun h17 => ?_) (fun h17 => ?_)
  · have h17 : p ≥ 0 := zz_bG_t (by omega) (by omega) h17
    refine Ev.run [(.aload_n 0, 1), (.getfield 127, 3)] (pc' := 28) (L' := [some (.ref 359), some (.int (nI k)), some (.int (nI p))]) (S' := [.int (I1 359 17), .ref 368, .int (nI (tz A k))]) rfl (by decide +kernel) rfl ?_
    rw [hf]
    refine Ev.callS0 mX7_band [.int (nI v)] [.ref 368, .int (nI (tz A k))] _ rfl lk_RX7_137 (by decide +kernel) rfl (Nat.le_of_ble_eq_true rfl) (c_X7_band I1 J v (by have := mtc_le A k p; omega)) ?_
    rintro _ _ ⟨rfl, rfl⟩
    show Ev _ _ _ _ _ 31 [some (.ref 359), some (.int (nI k)), some (.int (nI p))] [.int (nI (bnd v)), .ref 368, .int (nI (tz A k))] (zz_SH, I1, J) _
    refine Ev.iald (bnd v) (by decide +kernel) (rfl) (rfl) (bnd_lt v) (by first | decide | omega) ?_
    dsimp only
    rw [show I1 368 (bnd v) = nI (rt A (bnd v)) from hV1.2.2.2.1 (bnd v) (bnd_lt v)]
    refine Ev.run [(.imul, 1)] (pc' := 33) (L' := [some (.ref 359), some (.int (nI k)), some (.int (nI p))]) (S' := [.int (nI (tz A k) * nI (rt A (bnd v)))]) rfl (by decide +kernel) rfl ?_
    rw [pk_mul (tz A k) (rt A (bnd v))]
    exact Ev.iret rfl (by decide +kernel) (⟨by rw [prc, bfd, hx], I1, hs_I1, rfl⟩)
  · have h17 : p < 0 := zz_bG_f (by omega) (by omega) h17
    exfalso; omega

theorem c_X7_priceOf {sc : Nat × (Nat → Int32)} {d : Nat} (I : Nat → Nat → Int32) (J : Nat → Nat → Int64) (A : zA) (hV : MV (zVm I) A) (hW : WF A) (k : Nat) (hk : k < aM A) : EvM sc (d + 7) 0 0 mX7_priceOf [.ref 359, .int (nI k)] (zz_SH, I, J) (fun r σ => r = some (.int (nI (prc A k))) ∧ ∃ I' : Nat → Nat → Int32, zS2 I I' ∧ σ = (zz_SH, I', J)) := by
  cases hx : fnd A k (aN A) with
  | none => exact c_X7_priceOf_n I J A hV hW k hk hx
  | some y => exact c_X7_priceOf_s I J A hV hW k hk y.1 y.2 hx

set_option maxRecDepth 100000 in
set_option maxHeartbeats 4000000 in
theorem c_X7_price_in {sc : Nat × (Nat → Int32)} {d : Nat} (I : Nat → Nat → Int32) (J : Nat → Nat → Int64) (A : zA) (hV : MV (zVm I) A) (hW : WF A) (k : Nat) (hk : k < aM A) : EvM sc (d + 8) 0 0 mX7_price [.ref 359, .int (nI k)] (zz_SH, I, J) (fun r σ => r = some (.int (nI (prc A k))) ∧ ∃ I' : Nat → Nat → Int32, zSc I I' ∧ σ = (zz_SH, I', J)) := by
  have w1 := hW.1.1
  have w2 := hW.1.2.1
  refine EvM.of (by decide) rfl (Nat.le_of_ble_eq_true rfl) ?_
  show Ev _ _ _ _ _ 0 [some (.ref 359), some (.int (nI k)), none, none] [] (zz_SH, I, J) _
  refine Ev.run [(.iload_n 1, 1), (.iconst (-1), 1)] (pc' := 2) (L' := [some (.ref 359), some (.int (nI k)), none, none]) (S' := [.int ((-1)), .int (nI k)]) rfl (by decide +kernel) rfl ?_
  refine Ev.icmp_eq (off := 21) (tgt := 23) (by decide +kernel) (by decide) (fun h2 => absurd h2 (zz_nm k (by omega))) (fun h2 => ?_)
  refine Ev.run [(.aload_n 0, 1), (.iload_n 1, 1)] (pc' := 7) (L' := [some (.ref 359), some (.int (nI k)), none, none]) (S' := [.int (nI k), .ref 359]) rfl (by decide +kernel) rfl ?_
  refine Ev.callV0 mX7_isSentence [.int (nI k)] [] _ rfl lk_RX7_107 (by decide +kernel) (rfl) rfl rfl rfl (Nat.le_of_ble_eq_true rfl) (c_X7_isSentence I J (aM A) (nI k) hV.1.2.1 (by omega)) ?_
  rintro _ _ ⟨rfl, ⟨rfl, h7⟩ | ⟨rfl, h7⟩⟩
  · show Ev _ _ _ _ _ 10 [some (.ref 359), some (.int (nI k)), none, none] [.int (nI 1)] (zz_SH, I, J) _
    refine Ev.if_eq (off := 11) (tgt := 21) (by decide +kernel) (by decide) (fun h10 => absurd h10 (by decide)) (fun h10 => ?_)
    refine Ev.run [(.aload_n 0, 1), (.iload_n 1, 1)] (pc' := 15) (L' := [some (.ref 359), some (.int (nI k)), none, none]) (S' := [.int (nI k), .ref 359]) rfl (by decide +kernel) rfl ?_
    refine Ev.callV0 mX7_priceOf [.int (nI k)] [] _ rfl lk_RX7_140 (by decide +kernel) (rfl) rfl rfl rfl (Nat.le_of_ble_eq_true rfl) (c_X7_priceOf I J A hV hW k hk) ?_
    rintro _ _ ⟨rfl, I1, hs_I1, rfl⟩
    show Ev _ _ _ _ _ 18 [some (.ref 359), some (.int (nI k)), none, none] [.int (nI (prc A k))] (zz_SH, I1, J) _
    refine Ev.goto (off := 4) (tgt := 22) (by decide +kernel) (by decide) ?_
    exact Ev.iret rfl (by decide +kernel) (⟨rfl, I1, hs_I1.sc, rfl⟩)
  · exact absurd ⟨k, hk, rfl⟩ h7

set_option maxRecDepth 100000 in
set_option maxHeartbeats 4000000 in
theorem c_X7_price_out {sc : Nat × (Nat → Int32)} {d : Nat} (I : Nat → Nat → Int32) (J : Nat → Nat → Int64) (A : zA) (hV : MV (zVm I) A) (hW : WF A) (x : Int32) (hx1 : ¬ x = (-1)) (hx2 : ¬ zz_ix x (aM A)) : EvM sc (d + 8) 0 0 mX7_price [.ref 359, .int x] (zz_SH, I, J) (zz_is (.int (-1)) (zz_SH, I, J)) := by
  have w1 := hW.1.1
  have w2 := hW.1.2.1
  refine EvM.of (by decide) rfl (Nat.le_of_ble_eq_true rfl) ?_
  show Ev _ _ _ _ _ 0 [some (.ref 359), some (.int x), none, none] [] (zz_SH, I, J) _
  refine Ev.run [(.iload_n 1, 1), (.iconst (-1), 1)] (pc' := 2) (L' := [some (.ref 359), some (.int x), none, none]) (S' := [.int ((-1)), .int x]) rfl (by decide +kernel) rfl ?_
  refine Ev.icmp_eq (off := 21) (tgt := 23) (by decide +kernel) (by decide) (fun h2 => absurd h2 hx1) (fun h2 => ?_)
  refine Ev.run [(.aload_n 0, 1), (.iload_n 1, 1)] (pc' := 7) (L' := [some (.ref 359), some (.int x), none, none]) (S' := [.int x, .ref 359]) rfl (by decide +kernel) rfl ?_
  refine Ev.callV0 mX7_isSentence [.int x] [] _ rfl lk_RX7_107 (by decide +kernel) (rfl) rfl rfl rfl (Nat.le_of_ble_eq_true rfl) (c_X7_isSentence I J (aM A) x hV.1.2.1 (by omega)) ?_
  rintro _ _ ⟨rfl, ⟨rfl, h7⟩ | ⟨rfl, h7⟩⟩
  · exact absurd h7 hx2
  · show Ev _ _ _ _ _ 10 [some (.ref 359), some (.int x), none, none] [.int (nI 0)] (zz_SH, I, J) _
    refine Ev.if_eq (off := 11) (tgt := 21) (by decide +kernel) (by decide) (fun h10 => ?_) (fun h10 => absurd h10 (by decide))
    refine Ev.run [(.iconst (-1), 1)] (pc' := 22) (L' := [some (.ref 359), some (.int x), none, none]) (S' := [.int ((-1))]) rfl (by decide +kernel) rfl ?_
    exact Ev.iret rfl (by decide +kernel) (⟨rfl, rfl⟩)

set_option maxRecDepth 100000 in
set_option maxHeartbeats 4000000 in
theorem l_X7_price {sc : Nat × (Nat → Int32)} {d : Nat} (I : Nat → Nat → Int32) (J : Nat → Nat → Int64) (A : zA) (hV : MV (zVm I) A) (hW : WF A) : ∀ (μ : Nat) (i : Nat) (I1 : Nat → Nat → Int32), aM A - i < μ → (i ≤ aM A) → (zSc I I1) →  Ev sc (d + 8) 0 0 mX7_price 27 [some (.ref 359), some (.int ((-1))), some (.int (nI (prs A i))), some (.int (nI i))] [] (zz_SH, I1, J) (fun r σ => r = some (.int (nI (prs A (aM A)))) ∧ ∃ I' : Nat → Nat → Int32, zSc I I' ∧ σ = (zz_SH, I', J)) := by
  intro μ
  induction μ with
  | zero => intro i I1 hμ; exact absurd hμ (Nat.not_lt_zero _)
  | succ μ ih =>
    intro i I1 hμ hi hs
    have w1 := hW.1.1
    have w2 := hW.1.2.1
    have hV1 := hs.mv hV
    refine Ev.run [(.iload_n 3, 1), (.aload_n 0, 1), (.getfield 83, 3)] (pc' := 32) (L' := [some (.ref 359), some (.int ((-1))), some (.int (nI (prs A i))), some (.int (nI i))]) (S' := [.int (I1 359 8), .int (nI i)]) rfl (by decide +kernel) rfl ?_
    rw [show I1 359 8 = nI (aM A) from hV1.1.2.1]
    refine Ev.icmp_ge (off := 17) (tgt := 49) (by decide +kernel) (by decide) (fun h32 => ?_) (fun h32 => ?_)
    · have h32 : i ≥ (aM A) := zz_bG_t (by omega) (by omega) h32
      have hiM : aM A = i := by omega
      refine Ev.run [(.iload_n 2, 1)] (pc' := 50) (L' := [some (.ref 359), some (.int ((-1))), some (.int (nI (prs A i))), some (.int (nI i))]) (S' := [.int (nI (prs A i))]) rfl (by decide +kernel) rfl ?_
      exact Ev.iret rfl (by decide +kernel) (⟨by rw [hiM], I1, hs, rfl⟩)
    · have h32 : i < (aM A) := zz_bG_f (by omega) (by omega) h32
      refine Ev.run [(.iload_n 2, 1), (.aload_n 0, 1), (.iload_n 3, 1)] (pc' := 38) (L' := [some (.ref 359), some (.int ((-1))), some (.int (nI (prs A i))), some (.int (nI i))]) (S' := [.int (nI i), .ref 359, .int (nI (prs A i))]) rfl (by decide +kernel) rfl ?_
      refine Ev.callV0 mX7_priceOf [.int (nI i)] [.int (nI (prs A i))] _ rfl lk_RX7_140 (by decide +kernel) (rfl) rfl rfl rfl (Nat.le_of_ble_eq_true rfl) (c_X7_priceOf I1 J A hV1 hW i (by omega)) ?_
      rintro _ _ ⟨rfl, I2, hs_I2, rfl⟩
      show Ev _ _ _ _ _ 41 [some (.ref 359), some (.int ((-1))), some (.int (nI (prs A i))), some (.int (nI i))] [.int (nI (prc A i)), .int (nI (prs A i))] (zz_SH, I2, J) _
      refine Ev.run [(.iadd, 1)] (pc' := 42) (L' := [some (.ref 359), some (.int ((-1))), some (.int (nI (prs A i))), some (.int (nI i))]) (S' := [.int (nI (prs A i) + nI (prc A i))]) rfl (by decide +kernel) rfl ?_
      rw [nI_add (prs A i) (prc A i)]
      refine Ev.run [(.istore_n 2, 1), (.iinc 3 1, 3)] (pc' := 46) (L' := [some (.ref 359), some (.int ((-1))), some (.int (nI ((prs A i) + (prc A i)))), some (.int (nI i + 1))]) (S' := []) rfl (by decide +kernel) rfl ?_
      rw [nI_1 i]
      refine Ev.goto (off := (-19)) (tgt := 27) (by decide +kernel) (by decide) ?_
      exact ih (i + 1) I2 (by omega) (by omega) (hs.tr hs_I2.sc)

set_option maxRecDepth 100000 in
set_option maxHeartbeats 4000000 in
theorem c_X7_price_all {sc : Nat × (Nat → Int32)} {d : Nat} (I : Nat → Nat → Int32) (J : Nat → Nat → Int64) (A : zA) (hV : MV (zVm I) A) (hW : WF A) : EvM sc (d + 8) 0 0 mX7_price [.ref 359, .int ((-1))] (zz_SH, I, J) (fun r σ => r = some (.int (nI (prs A (aM A)))) ∧ ∃ I' : Nat → Nat → Int32, zSc I I' ∧ σ = (zz_SH, I', J)) := by
  have w1 := hW.1.1
  have w2 := hW.1.2.1
  refine EvM.of (by decide) rfl (Nat.le_of_ble_eq_true rfl) ?_
  show Ev _ _ _ _ _ 0 [some (.ref 359), some (.int ((-1))), none, none] [] (zz_SH, I, J) _
  refine Ev.run [(.iload_n 1, 1), (.iconst (-1), 1)] (pc' := 2) (L' := [some (.ref 359), some (.int ((-1))), none, none]) (S' := [.int ((-1)), .int ((-1))]) rfl (by decide +kernel) rfl ?_
  refine Ev.icmp_eq (off := 21) (tgt := 23) (by decide +kernel) (by decide) (fun h2 => ?_) (fun h2 => absurd h2 (by decide))
  refine Ev.run [(.iconst 0, 1), (.istore_n 2, 1), (.iconst 0, 1), (.istore_n 3, 1)] (pc' := 27) (L' := [some (.ref 359), some (.int ((-1))), some (.int (nI 0)), some (.int (nI 0))]) (S' := []) rfl (by decide +kernel) rfl ?_
  exact l_X7_price I J A hV hW (aM A + 1) 0 I (by omega) (by omega) (zSc.rf I)

set_option maxRecDepth 100000 in
set_option maxHeartbeats 4000000 in
theorem c_X7_found_0 {sc : Nat × (Nat → Int32)} {d : Nat} (I : Nat → Nat → Int32) (J : Nat → Nat → Int64) (A : zA) (hV : MV (zVm I) A) (hW : WF A) (k : Nat) (hk : k < aM A) : EvM sc (d + 7) 0 0 mX7_found [.ref 359, .int (nI k), .int (nI 0)] (zz_SH, I, J) (fun r σ => r = some (.int (fo (fnd A k (aN A)))) ∧ ∃ I' : Nat → Nat → Int32, zSc I I' ∧ σ = (zz_SH, I', J)) := by
  have w1 := hW.1.1
  have w2 := hW.1.2.1
  refine EvM.of (by decide) rfl (Nat.le_of_ble_eq_true rfl) ?_
  show Ev _ _ _ _ _ 0 [some (.ref 359), some (.int (nI k)), some (.int (nI 0)), none] [] (zz_SH, I, J) _
  refine Ev.run [(.aload_n 0, 1), (.iload_n 1, 1)] (pc' := 2) (L' := [some (.ref 359), some (.int (nI k)), some (.int (nI 0)), none]) (S' := [.int (nI k), .ref 359]) rfl (by decide +kernel) rfl ?_
  refine Ev.callV0 mX7_isSentence [.int (nI k)] [] _ rfl lk_RX7_107 (by decide +kernel) (rfl) rfl rfl rfl (Nat.le_of_ble_eq_true rfl) (c_X7_isSentence I J (aM A) (nI k) hV.1.2.1 (by omega)) ?_
  rintro _ _ ⟨rfl, ⟨rfl, h2⟩ | ⟨rfl, h2⟩⟩
  · show Ev _ _ _ _ _ 5 [some (.ref 359), some (.int (nI k)), some (.int (nI 0)), none] [.int (nI 1)] (zz_SH, I, J) _
    refine Ev.if_ne (off := 5) (tgt := 10) (by decide +kernel) (by decide) (fun h5 => ?_) (fun h5 => absurd h5 (by decide))
    refine Ev.run [(.iload_n 2, 1), (.iconst 0, 1), (.iconst 1, 1)] (pc' := 13) (L' := [some (.ref 359), some (.int (nI k)), some (.int (nI 0)), none]) (S' := [.int (nI 1), .int (nI 0), .int (nI 0)]) rfl (by decide +kernel) rfl ?_
    refine Ev.callS0 mX7_in [.int (nI 0), .int (nI 0), .int (nI 1)] [] _ rfl lk_RX7_79 (by decide +kernel) rfl (Nat.le_of_ble_eq_true rfl) (c_X7_in I J (nI 0) (nI 0) (nI 1)) ?_
    rintro _ _ ⟨rfl, ⟨rfl, h13⟩ | ⟨rfl, h13⟩⟩
    · show Ev _ _ _ _ _ 16 [some (.ref 359), some (.int (nI k)), some (.int (nI 0)), none] [.int (nI 1)] (zz_SH, I, J) _
      refine Ev.if_ne (off := 6) (tgt := 22) (by decide +kernel) (by decide) (fun h16 => ?_) (fun h16 => absurd h16 (by decide))
      refine Ev.run [(.aload_n 0, 1), (.iload_n 1, 1)] (pc' := 24) (L' := [some (.ref 359), some (.int (nI k)), some (.int (nI 0)), none]) (S' := [.int (nI k), .ref 359]) rfl (by decide +kernel) rfl ?_
      refine Ev.callV0 mX7_foundOf [.int (nI k)] [] _ rfl lk_RX7_130 (by decide +kernel) (rfl) rfl rfl rfl (Nat.le_of_ble_eq_true rfl) (c_X7_foundOf I J A hV hW k hk) ?_
      rintro _ _ ⟨rfl, I1, hs_I1, hf, rfl⟩
      show Ev _ _ _ _ _ 27 [some (.ref 359), some (.int (nI k)), some (.int (nI 0)), none] [.int (fo (fnd A k (aN A)))] (zz_SH, I1, J) _
      refine Ev.run [(.istore_n 3, 1), (.iload_n 2, 1)] (pc' := 29) (L' := [some (.ref 359), some (.int (nI k)), some (.int (nI 0)), some (.int (fo (fnd A k (aN A))))]) (S' := [.int (nI 0)]) rfl (by decide +kernel) rfl ?_
      refine Ev.if_ne (off := 7) (tgt := 36) (by decide +kernel) (by decide) (fun h29 => absurd h29 (by decide)) (fun h29 => ?_)
      refine Ev.run [(.iload_n 3, 1)] (pc' := 33) (L' := [some (.ref 359), some (.int (nI k)), some (.int (nI 0)), some (.int (fo (fnd A k (aN A))))]) (S' := [.int (fo (fnd A k (aN A)))]) rfl (by decide +kernel) rfl ?_
      refine Ev.goto (off := 7) (tgt := 40) (by decide +kernel) (by decide) ?_
      exact Ev.iret rfl (by decide +kernel) (⟨rfl, I1, hs_I1.sc, rfl⟩)
    · exact absurd (by decide) h13
  · exact absurd ⟨k, hk, rfl⟩ h2

set_option maxRecDepth 100000 in
set_option maxHeartbeats 4000000 in
theorem c_X7_found_1 {sc : Nat × (Nat → Int32)} {d : Nat} (I : Nat → Nat → Int32) (J : Nat → Nat → Int64) (A : zA) (hV : MV (zVm I) A) (hW : WF A) (k : Nat) (hk : k < aM A) : EvM sc (d + 7) 0 0 mX7_found [.ref 359, .int (nI k), .int (nI 1)] (zz_SH, I, J) (fun r σ => r = some (.int (fv (fnd A k (aN A)))) ∧ ∃ I' : Nat → Nat → Int32, zSc I I' ∧ σ = (zz_SH, I', J)) := by
  have w1 := hW.1.1
  have w2 := hW.1.2.1
  refine EvM.of (by decide) rfl (Nat.le_of_ble_eq_true rfl) ?_
  show Ev _ _ _ _ _ 0 [some (.ref 359), some (.int (nI k)), some (.int (nI 1)), none] [] (zz_SH, I, J) _
  refine Ev.run [(.aload_n 0, 1), (.iload_n 1, 1)] (pc' := 2) (L' := [some (.ref 359), some (.int (nI k)), some (.int (nI 1)), none]) (S' := [.int (nI k), .ref 359]) rfl (by decide +kernel) rfl ?_
  refine Ev.callV0 mX7_isSentence [.int (nI k)] [] _ rfl lk_RX7_107 (by decide +kernel) (rfl) rfl rfl rfl (Nat.le_of_ble_eq_true rfl) (c_X7_isSentence I J (aM A) (nI k) hV.1.2.1 (by omega)) ?_
  rintro _ _ ⟨rfl, ⟨rfl, h2⟩ | ⟨rfl, h2⟩⟩
  · show Ev _ _ _ _ _ 5 [some (.ref 359), some (.int (nI k)), some (.int (nI 1)), none] [.int (nI 1)] (zz_SH, I, J) _
    refine Ev.if_ne (off := 5) (tgt := 10) (by decide +kernel) (by decide) (fun h5 => ?_) (fun h5 => absurd h5 (by decide))
    refine Ev.run [(.iload_n 2, 1), (.iconst 0, 1), (.iconst 1, 1)] (pc' := 13) (L' := [some (.ref 359), some (.int (nI k)), some (.int (nI 1)), none]) (S' := [.int (nI 1), .int (nI 0), .int (nI 1)]) rfl (by decide +kernel) rfl ?_
    refine Ev.callS0 mX7_in [.int (nI 1), .int (nI 0), .int (nI 1)] [] _ rfl lk_RX7_79 (by decide +kernel) rfl (Nat.le_of_ble_eq_true rfl) (c_X7_in I J (nI 1) (nI 0) (nI 1)) ?_
    rintro _ _ ⟨rfl, ⟨rfl, h13⟩ | ⟨rfl, h13⟩⟩
    · show Ev _ _ _ _ _ 16 [some (.ref 359), some (.int (nI k)), some (.int (nI 1)), none] [.int (nI 1)] (zz_SH, I, J) _
      refine Ev.if_ne (off := 6) (tgt := 22) (by decide +kernel) (by decide) (fun h16 => ?_) (fun h16 => absurd h16 (by decide))
      refine Ev.run [(.aload_n 0, 1), (.iload_n 1, 1)] (pc' := 24) (L' := [some (.ref 359), some (.int (nI k)), some (.int (nI 1)), none]) (S' := [.int (nI k), .ref 359]) rfl (by decide +kernel) rfl ?_
      refine Ev.callV0 mX7_foundOf [.int (nI k)] [] _ rfl lk_RX7_130 (by decide +kernel) (rfl) rfl rfl rfl (Nat.le_of_ble_eq_true rfl) (c_X7_foundOf I J A hV hW k hk) ?_
      rintro _ _ ⟨rfl, I1, hs_I1, hf, rfl⟩
      show Ev _ _ _ _ _ 27 [some (.ref 359), some (.int (nI k)), some (.int (nI 1)), none] [.int (fo (fnd A k (aN A)))] (zz_SH, I1, J) _
      refine Ev.run [(.istore_n 3, 1), (.iload_n 2, 1)] (pc' := 29) (L' := [some (.ref 359), some (.int (nI k)), some (.int (nI 1)), some (.int (fo (fnd A k (aN A))))]) (S' := [.int (nI 1)]) rfl (by decide +kernel) rfl ?_
      refine Ev.if_ne (off := 7) (tgt := 36) (by decide +kernel) (by decide) (fun h29 => ?_) (fun h29 => absurd h29 (by decide))
      refine Ev.run [(.aload_n 0, 1), (.getfield 127, 3)] (pc' := 40) (L' := [some (.ref 359), some (.int (nI k)), some (.int (nI 1)), some (.int (fo (fnd A k (aN A))))]) (S' := [.int (I1 359 17)]) rfl (by decide +kernel) rfl ?_
      rw [hf]
      exact Ev.iret rfl (by decide +kernel) (⟨rfl, I1, hs_I1.sc, rfl⟩)
    · exact absurd (by decide) h13
  · exact absurd ⟨k, hk, rfl⟩ h2

set_option maxRecDepth 100000 in
set_option maxHeartbeats 4000000 in
theorem c_X7_found_u {sc : Nat × (Nat → Int32)} {d : Nat} (I : Nat → Nat → Int32) (J : Nat → Nat → Int64) (A : zA) (hV : MV (zVm I) A) (hW : WF A) (x y : Int32) (hx2 : ¬ zz_ix x (aM A)) : EvM sc (d + 7) 0 0 mX7_found [.ref 359, .int x, .int y] (zz_SH, I, J) (zz_is (.int (-1)) (zz_SH, I, J)) := by
  have w1 := hW.1.1
  have w2 := hW.1.2.1
  refine EvM.of (by decide) rfl (Nat.le_of_ble_eq_true rfl) ?_
  show Ev _ _ _ _ _ 0 [some (.ref 359), some (.int x), some (.int y), none] [] (zz_SH, I, J) _
  refine Ev.run [(.aload_n 0, 1), (.iload_n 1, 1)] (pc' := 2) (L' := [some (.ref 359), some (.int x), some (.int y), none]) (S' := [.int x, .ref 359]) rfl (by decide +kernel) rfl ?_
  refine Ev.callV0 mX7_isSentence [.int x] [] _ rfl lk_RX7_107 (by decide +kernel) (rfl) rfl rfl rfl (Nat.le_of_ble_eq_true rfl) (c_X7_isSentence I J (aM A) x hV.1.2.1 (by omega)) ?_
  rintro _ _ ⟨rfl, ⟨rfl, h2⟩ | ⟨rfl, h2⟩⟩
  · exact absurd h2 hx2
  · show Ev _ _ _ _ _ 5 [some (.ref 359), some (.int x), some (.int y), none] [.int (nI 0)] (zz_SH, I, J) _
    refine Ev.if_ne (off := 5) (tgt := 10) (by decide +kernel) (by decide) (fun h5 => absurd h5 (by decide)) (fun h5 => ?_)
    refine Ev.run [(.iconst (-1), 1)] (pc' := 9) (L' := [some (.ref 359), some (.int x), some (.int y), none]) (S' := [.int ((-1))]) rfl (by decide +kernel) rfl ?_
    exact Ev.iret rfl (by decide +kernel) (⟨rfl, rfl⟩)

set_option maxRecDepth 100000 in
set_option maxHeartbeats 4000000 in
theorem c_X7_found_o {sc : Nat × (Nat → Int32)} {d : Nat} (I : Nat → Nat → Int32) (J : Nat → Nat → Int64) (A : zA) (hV : MV (zVm I) A) (hW : WF A) (k : Nat) (hk : k < aM A) (y : Int32) (hy : ¬ zz_ix y 2) : EvM sc (d + 7) 0 0 mX7_found [.ref 359, .int (nI k), .int y] (zz_SH, I, J) (zz_is (.int (-2)) (zz_SH, I, J)) := by
  have w1 := hW.1.1
  have w2 := hW.1.2.1
  refine EvM.of (by decide) rfl (Nat.le_of_ble_eq_true rfl) ?_
  show Ev _ _ _ _ _ 0 [some (.ref 359), some (.int (nI k)), some (.int y), none] [] (zz_SH, I, J) _
  refine Ev.run [(.aload_n 0, 1), (.iload_n 1, 1)] (pc' := 2) (L' := [some (.ref 359), some (.int (nI k)), some (.int y), none]) (S' := [.int (nI k), .ref 359]) rfl (by decide +kernel) rfl ?_
  refine Ev.callV0 mX7_isSentence [.int (nI k)] [] _ rfl lk_RX7_107 (by decide +kernel) (rfl) rfl rfl rfl (Nat.le_of_ble_eq_true rfl) (c_X7_isSentence I J (aM A) (nI k) hV.1.2.1 (by omega)) ?_
  rintro _ _ ⟨rfl, ⟨rfl, h2⟩ | ⟨rfl, h2⟩⟩
  · show Ev _ _ _ _ _ 5 [some (.ref 359), some (.int (nI k)), some (.int y), none] [.int (nI 1)] (zz_SH, I, J) _
    refine Ev.if_ne (off := 5) (tgt := 10) (by decide +kernel) (by decide) (fun h5 => ?_) (fun h5 => absurd h5 (by decide))
    refine Ev.run [(.iload_n 2, 1), (.iconst 0, 1), (.iconst 1, 1)] (pc' := 13) (L' := [some (.ref 359), some (.int (nI k)), some (.int y), none]) (S' := [.int (nI 1), .int (nI 0), .int y]) rfl (by decide +kernel) rfl ?_
    refine Ev.callS0 mX7_in [.int y, .int (nI 0), .int (nI 1)] [] _ rfl lk_RX7_79 (by decide +kernel) rfl (Nat.le_of_ble_eq_true rfl) (c_X7_in I J y (nI 0) (nI 1)) ?_
    rintro _ _ ⟨rfl, ⟨rfl, h13⟩ | ⟨rfl, h13⟩⟩
    · rw [show (nI 1 : Int32) = nI 2 - nI 1 by decide, zz_ix_iff (by decide)] at h13; exact absurd h13 hy
    · show Ev _ _ _ _ _ 16 [some (.ref 359), some (.int (nI k)), some (.int y), none] [.int (nI 0)] (zz_SH, I, J) _
      refine Ev.if_ne (off := 6) (tgt := 22) (by decide +kernel) (by decide) (fun h16 => absurd h16 (by decide)) (fun h16 => ?_)
      refine Ev.run [(.bipush (-2), 2)] (pc' := 21) (L' := [some (.ref 359), some (.int (nI k)), some (.int y), none]) (S' := [.int ((-2))]) rfl (by decide +kernel) rfl ?_
      exact Ev.iret rfl (by decide +kernel) (⟨rfl, rfl⟩)
  · exact absurd ⟨k, hk, rfl⟩ h2

set_option maxRecDepth 100000 in
set_option maxHeartbeats 4000000 in
theorem l_X7_doesFill {sc : Nat × (Nat → Int32)} {d : Nat} (I : Nat → Nat → Int32) (J : Nat → Nat → Int64) (A : zA) (hV : MV (zVm I) A) (hW : WF A) (k p : Nat) (hk : k < aM A) (hp : p < aN A) (he : tz A k = fz A p) : ∀ (μ : Nat) (i : Nat), tz A k - i < μ → (i ≤ tz A k) → (∀ j, j < i → chg (tt A k j) (ff A p j) < 4) →  Ev sc (d + 3) 0 0 mX7_doesFill 24 [some (.ref 359), some (.int (nI k)), some (.int (nI p)), some (.int (nI 1)), some (.int (nI i))] [] (zz_SH, I, J) (zz_tf (dfl A k p) (zz_SH, I, J)) := by
  intro μ
  induction μ with
  | zero => intro i hμ; exact absurd hμ (Nat.not_lt_zero _)
  | succ μ ih =>
    intro i hμ hi hal
    have w1 := hW.1.1
    have w2 := hW.1.2.1
    have t1 := (hW.2.2.1 k hk).1
    have t2 := (hW.2.1 p hp).1
    refine Ev.run [(.iload 4, 2), (.aload_n 0, 1), (.getfield 28, 3), (.iload_n 1, 1)] (pc' := 31) (L' := [some (.ref 359), some (.int (nI k)), some (.int (nI p)), some (.int (nI 1)), some (.int (nI i))]) (S' := [.int (nI k), .ref 366, .int (nI i)]) rfl (by decide +kernel) rfl ?_
    refine Ev.iald k (by decide +kernel) (rfl) (rfl) (by omega) (by first | decide | omega) ?_
    dsimp only
    rw [show I 366 k = nI (tz A k) from (hV.2.2.1 k hk).1]
    refine Ev.icmp_ge (off := 50) (tgt := 82) (by decide +kernel) (by decide) (fun h32 => ?_) (fun h32 => ?_)
    · have h32 : i ≥ (tz A k) := zz_bG_t (by omega) (by omega) h32
      refine Ev.run [(.iload_n 3, 1)] (pc' := 83) (L' := [some (.ref 359), some (.int (nI k)), some (.int (nI p)), some (.int (nI 1)), some (.int (nI i))]) (S' := [.int (nI 1)]) rfl (by decide +kernel) rfl ?_
      exact Ev.zret rfl (by decide +kernel) (Or.inr rfl) (⟨rfl, Or.inl ⟨rfl, he, fun j hj => hal j (by omega)⟩⟩)
    · have h32 : i < (tz A k) := zz_bG_f (by omega) (by omega) h32
      refine Ev.run [(.iload_n 3, 1)] (pc' := 36) (L' := [some (.ref 359), some (.int (nI k)), some (.int (nI p)), some (.int (nI 1)), some (.int (nI i))]) (S' := [.int (nI 1)]) rfl (by decide +kernel) rfl ?_
      refine Ev.if_eq (off := 46) (tgt := 82) (by decide +kernel) (by decide) (fun h36 => absurd h36 (by decide)) (fun h36 => ?_)
      refine Ev.run [(.aload_n 0, 1), (.getfield 31, 3), (.bipush 12, 2), (.iload_n 1, 1), (.imul, 1)] (pc' := 47) (L' := [some (.ref 359), some (.int (nI k)), some (.int (nI p)), some (.int (nI 1)), some (.int (nI i))]) (S' := [.int (nI 12 * nI k), .ref 367]) rfl (by decide +kernel) rfl ?_
      rw [pk_mul 12 k]
      refine Ev.run [(.iload 4, 2), (.iadd, 1)] (pc' := 50) (L' := [some (.ref 359), some (.int (nI k)), some (.int (nI p)), some (.int (nI 1)), some (.int (nI i))]) (S' := [.int (nI (12 * k) + nI i), .ref 367]) rfl (by decide +kernel) rfl ?_
      rw [nI_add (12 * k) i]
      refine Ev.iald ((12 * k) + i) (by decide +kernel) (rfl) (rfl) (by omega) (by first | decide | omega) ?_
      dsimp only
      rw [show I 367 (12 * k + i) = nI (tt A k i) from (hV.2.2.1 k hk).2 i (by omega)]
      refine Ev.run [(.aload_n 0, 1), (.getfield 22, 3), (.bipush 12, 2), (.iload_n 2, 1), (.imul, 1)] (pc' := 59) (L' := [some (.ref 359), some (.int (nI k)), some (.int (nI p)), some (.int (nI 1)), some (.int (nI i))]) (S' := [.int (nI 12 * nI p), .ref 364, .int (nI (tt A k i))]) rfl (by decide +kernel) rfl ?_
      rw [pk_mul 12 p]
      refine Ev.run [(.iload 4, 2), (.iadd, 1)] (pc' := 62) (L' := [some (.ref 359), some (.int (nI k)), some (.int (nI p)), some (.int (nI 1)), some (.int (nI i))]) (S' := [.int (nI (12 * p) + nI i), .ref 364, .int (nI (tt A k i))]) rfl (by decide +kernel) rfl ?_
      rw [nI_add (12 * p) i]
      refine Ev.iald ((12 * p) + i) (by decide +kernel) (rfl) (rfl) (by omega) (by first | decide | omega) ?_
      dsimp only
      rw [show I 364 (12 * p + i) = nI (ff A p i) from (hV.2.1 p hp).2.2.2.1 i (by omega)]
      refine Ev.callS0 mX7_changes [.int (nI (tt A k i)), .int (nI (ff A p i))] [] _ rfl lk_RX7_103 (by decide +kernel) rfl (Nat.le_of_ble_eq_true rfl) (c_X7_changes I J (tt A k i) (ff A p i) (by have := ((hW.2.2.1 k hk).2 i (by omega)).2; omega) (by have := ((hW.2.1 p hp).2.1 i (by omega)).2; omega)) ?_
      rintro _ _ ⟨rfl, rfl⟩
      have b4 := chg_le (tt A k i) (ff A p i)
      show Ev _ _ _ _ _ 66 [some (.ref 359), some (.int (nI k)), some (.int (nI p)), some (.int (nI 1)), some (.int (nI i))] [.int (nI (chg (tt A k i) (ff A p i)))] (zz_SH, I, J) _
      refine Ev.run [(.iconst 4, 1)] (pc' := 67) (L' := [some (.ref 359), some (.int (nI k)), some (.int (nI p)), some (.int (nI 1)), some (.int (nI i))]) (S' := [.int (nI 4), .int (nI (chg (tt A k i) (ff A p i)))]) rfl (by decide +kernel) rfl ?_
      refine Ev.icmp_ge (off := 7) (tgt := 74) (by decide +kernel) (by decide) (fun h67 => ?_) (fun h67 => ?_)
      · have h67 : (chg (tt A k i) (ff A p i)) ≥ 4 := zz_bG_t (by omega) (by omega) h67
        refine Ev.run [(.iconst 0, 1), (.istore_n 3, 1), (.iinc 4 1, 3)] (pc' := 79) (L' := [some (.ref 359), some (.int (nI k)), some (.int (nI p)), some (.int (nI 0)), some (.int (nI i + 1))]) (S' := []) rfl (by decide +kernel) rfl ?_
        rw [nI_1 i]
        refine Ev.goto (off := (-55)) (tgt := 24) (by decide +kernel) (by decide) ?_
        refine Ev.run [(.iload 4, 2), (.aload_n 0, 1), (.getfield 28, 3), (.iload_n 1, 1)] (pc' := 31) (L' := [some (.ref 359), some (.int (nI k)), some (.int (nI p)), some (.int (nI 0)), some (.int (nI (i + 1)))]) (S' := [.int (nI k), .ref 366, .int (nI (i + 1))]) rfl (by decide +kernel) rfl ?_
        refine Ev.iald k (by decide +kernel) (rfl) (rfl) (by omega) (by first | decide | omega) ?_
        dsimp only
        rw [show I 366 k = nI (tz A k) from (hV.2.2.1 k hk).1]
        refine Ev.icmp_ge (off := 50) (tgt := 82) (by decide +kernel) (by decide) (fun g32 => ?_) (fun g32 => ?_)
        · have g32 : (i + 1) ≥ (tz A k) := zz_bG_t (by omega) (by omega) g32
          refine Ev.run [(.iload_n 3, 1)] (pc' := 83) (L' := [some (.ref 359), some (.int (nI k)), some (.int (nI p)), some (.int (nI 0)), some (.int (nI (i + 1)))]) (S' := [.int (nI 0)]) rfl (by decide +kernel) rfl ?_
          exact Ev.zret rfl (by decide +kernel) (Or.inl rfl) (⟨rfl, Or.inr ⟨rfl, fun q => absurd (q.2 i (by omega)) (by omega)⟩⟩)
        · have g32 : (i + 1) < (tz A k) := zz_bG_f (by omega) (by omega) g32
          refine Ev.run [(.iload_n 3, 1)] (pc' := 36) (L' := [some (.ref 359), some (.int (nI k)), some (.int (nI p)), some (.int (nI 0)), some (.int (nI (i + 1)))]) (S' := [.int (nI 0)]) rfl (by decide +kernel) rfl ?_
          refine Ev.if_eq (off := 46) (tgt := 82) (by decide +kernel) (by decide) (fun h36 => ?_) (fun h36 => absurd h36 (by decide))
          refine Ev.run [(.iload_n 3, 1)] (pc' := 83) (L' := [some (.ref 359), some (.int (nI k)), some (.int (nI p)), some (.int (nI 0)), some (.int (nI (i + 1)))]) (S' := [.int (nI 0)]) rfl (by decide +kernel) rfl ?_
          exact Ev.zret rfl (by decide +kernel) (Or.inl rfl) (⟨rfl, Or.inr ⟨rfl, fun q => absurd (q.2 i (by omega)) (by omega)⟩⟩)
      · have h67 : (chg (tt A k i) (ff A p i)) < 4 := zz_bG_f (by omega) (by omega) h67
        refine Ev.run [(.iconst 1, 1)] (pc' := 71) (L' := [some (.ref 359), some (.int (nI k)), some (.int (nI p)), some (.int (nI 1)), some (.int (nI i))]) (S' := [.int (nI 1)]) rfl (by decide +kernel) rfl ?_
        refine Ev.goto (off := 4) (tgt := 75) (by decide +kernel) (by decide) ?_
        refine Ev.run [(.istore_n 3, 1), (.iinc 4 1, 3)] (pc' := 79) (L' := [some (.ref 359), some (.int (nI k)), some (.int (nI p)), some (.int (nI 1)), some (.int (nI i + 1))]) (S' := []) rfl (by decide +kernel) rfl ?_
        rw [nI_1 i]
        refine Ev.goto (off := (-55)) (tgt := 24) (by decide +kernel) (by decide) ?_
        exact ih (i + 1) (by omega) (by omega) (lt_s hal (by omega))

set_option maxRecDepth 100000 in
set_option maxHeartbeats 4000000 in
theorem c_X7_doesFill {sc : Nat × (Nat → Int32)} {d : Nat} (I : Nat → Nat → Int32) (J : Nat → Nat → Int64) (A : zA) (hV : MV (zVm I) A) (hW : WF A) (k p : Nat) (hk : k < aM A) (hp : p < aN A) : EvM sc (d + 3) 0 0 mX7_doesFill [.ref 359, .int (nI k), .int (nI p)] (zz_SH, I, J) (zz_tf (dfl A k p) (zz_SH, I, J)) := by
  have w1 := hW.1.1
  have w2 := hW.1.2.1
  have t1 := (hW.2.2.1 k hk).1
  have t2 := (hW.2.1 p hp).1
  refine EvM.of (by decide) rfl (Nat.le_of_ble_eq_true rfl) ?_
  show Ev _ _ _ _ _ 0 [some (.ref 359), some (.int (nI k)), some (.int (nI p)), none, none] [] (zz_SH, I, J) _
  refine Ev.run [(.aload_n 0, 1), (.getfield 28, 3), (.iload_n 1, 1)] (pc' := 5) (L' := [some (.ref 359), some (.int (nI k)), some (.int (nI p)), none, none]) (S' := [.int (nI k), .ref 366]) rfl (by decide +kernel) rfl ?_
  refine Ev.iald k (by decide +kernel) (rfl) (rfl) (by omega) (by first | decide | omega) ?_
  dsimp only
  rw [show I 366 k = nI (tz A k) from (hV.2.2.1 k hk).1]
  refine Ev.run [(.aload_n 0, 1), (.getfield 16, 3), (.iload_n 2, 1)] (pc' := 11) (L' := [some (.ref 359), some (.int (nI k)), some (.int (nI p)), none, none]) (S' := [.int (nI p), .ref 362, .int (nI (tz A k))]) rfl (by decide +kernel) rfl ?_
  refine Ev.iald p (by decide +kernel) (rfl) (rfl) (by omega) (by first | decide | omega) ?_
  dsimp only
  rw [show I 362 p = nI (fz A p) from (hV.2.1 p hp).2.1]
  refine Ev.icmp_ne (off := 7) (tgt := 19) (by decide +kernel) (by decide) (fun h12 => ?_) (fun h12 => ?_)
  · have h12 : ¬ (tz A k) = (fz A p) := zz_bE_f (by omega) (by omega) h12
    refine Ev.run [(.iconst 0, 1), (.istore_n 3, 1), (.iconst 0, 1), (.istore 4, 2), (.iload 4, 2), (.aload_n 0, 1), (.getfield 28, 3), (.iload_n 1, 1)] (pc' := 31) (L' := [some (.ref 359), some (.int (nI k)), some (.int (nI p)), some (.int (nI 0)), some (.int (nI 0))]) (S' := [.int (nI k), .ref 366, .int (nI 0)]) rfl (by decide +kernel) rfl ?_
    refine Ev.iald k (by decide +kernel) (rfl) (rfl) (by omega) (by first | decide | omega) ?_
    dsimp only
    rw [show I 366 k = nI (tz A k) from (hV.2.2.1 k hk).1]
    refine Ev.icmp_ge (off := 50) (tgt := 82) (by decide +kernel) (by decide) (fun h32 => ?_) (fun h32 => ?_)
    · have h32 : 0 ≥ (tz A k) := zz_bG_t (by omega) (by omega) h32
      refine Ev.run [(.iload_n 3, 1)] (pc' := 83) (L' := [some (.ref 359), some (.int (nI k)), some (.int (nI p)), some (.int (nI 0)), some (.int (nI 0))]) (S' := [.int (nI 0)]) rfl (by decide +kernel) rfl ?_
      exact Ev.zret rfl (by decide +kernel) (Or.inl rfl) (⟨rfl, Or.inr ⟨rfl, fun q => h12 q.1⟩⟩)
    · have h32 : 0 < (tz A k) := zz_bG_f (by omega) (by omega) h32
      refine Ev.run [(.iload_n 3, 1)] (pc' := 36) (L' := [some (.ref 359), some (.int (nI k)), some (.int (nI p)), some (.int (nI 0)), some (.int (nI 0))]) (S' := [.int (nI 0)]) rfl (by decide +kernel) rfl ?_
      refine Ev.if_eq (off := 46) (tgt := 82) (by decide +kernel) (by decide) (fun h36 => ?_) (fun h36 => absurd h36 (by decide))
      refine Ev.run [(.iload_n 3, 1)] (pc' := 83) (L' := [some (.ref 359), some (.int (nI k)), some (.int (nI p)), some (.int (nI 0)), some (.int (nI 0))]) (S' := [.int (nI 0)]) rfl (by decide +kernel) rfl ?_
      exact Ev.zret rfl (by decide +kernel) (Or.inl rfl) (⟨rfl, Or.inr ⟨rfl, fun q => h12 q.1⟩⟩)
  · have h12 : (tz A k) = (fz A p) := zz_bE_t (by omega) (by omega) h12
    refine Ev.run [(.iconst 1, 1)] (pc' := 16) (L' := [some (.ref 359), some (.int (nI k)), some (.int (nI p)), none, none]) (S' := [.int (nI 1)]) rfl (by decide +kernel) rfl ?_
    refine Ev.goto (off := 4) (tgt := 20) (by decide +kernel) (by decide) ?_
    refine Ev.run [(.istore_n 3, 1), (.iconst 0, 1), (.istore 4, 2)] (pc' := 24) (L' := [some (.ref 359), some (.int (nI k)), some (.int (nI p)), some (.int (nI 1)), some (.int (nI 0))]) (S' := []) rfl (by decide +kernel) rfl ?_
    exact l_X7_doesFill I J A hV hW k p hk hp h12 (tz A k + 1) 0 (by omega) (by omega) (fun j hj => absurd hj (Nat.not_lt_zero j))

theorem zz_ix16 {i : Int32} {n : Nat} (hn : n < 1000) : (nI 0 ≤ i ∧ i ≤ nI n - nI 1) ↔ zz_ix i n := zz_ix_iff (by omega)

set_option maxRecDepth 100000 in
set_option maxHeartbeats 4000000 in
theorem c_X7_filled_u {sc : Nat × (Nat → Int32)} {d : Nat} (I : Nat → Nat → Int32) (J : Nat → Nat → Int64) (A : zA) (hV : MV (zVm I) A) (hW : WF A) (x y : Int32) (hx2 : ¬ zz_ix x (aM A)) : EvM sc (d + 7) 0 0 mX7_filled [.ref 359, .int x, .int y] (zz_SH, I, J) (zz_is (.int (-1)) (zz_SH, I, J)) := by
  have w1 := hW.1.1
  have w2 := hW.1.2.1
  refine EvM.of (by decide) rfl (Nat.le_of_ble_eq_true rfl) ?_
  show Ev _ _ _ _ _ 0 [some (.ref 359), some (.int x), some (.int y), none, none, none] [] (zz_SH, I, J) _
  refine Ev.run [(.aload_n 0, 1), (.iload_n 1, 1)] (pc' := 2) (L' := [some (.ref 359), some (.int x), some (.int y), none, none, none]) (S' := [.int x, .ref 359]) rfl (by decide +kernel) rfl ?_
  refine Ev.callV0 mX7_isSentence [.int x] [] _ rfl lk_RX7_107 (by decide +kernel) (rfl) rfl rfl rfl (Nat.le_of_ble_eq_true rfl) (c_X7_isSentence I J (aM A) x hV.1.2.1 (by omega)) ?_
  rintro _ _ ⟨rfl, ⟨rfl, h2⟩ | ⟨rfl, h2⟩⟩
  · exact absurd h2 hx2
  · show Ev _ _ _ _ _ 5 [some (.ref 359), some (.int x), some (.int y), none, none, none] [.int (nI 0)] (zz_SH, I, J) _
    refine Ev.if_ne (off := 5) (tgt := 10) (by decide +kernel) (by decide) (fun h5 => absurd h5 (by decide)) (fun h5 => ?_)
    refine Ev.run [(.iconst (-1), 1)] (pc' := 9) (L' := [some (.ref 359), some (.int x), some (.int y), none, none, none]) (S' := [.int ((-1))]) rfl (by decide +kernel) rfl ?_
    exact Ev.iret rfl (by decide +kernel) (⟨rfl, rfl⟩)

set_option maxRecDepth 100000 in
set_option maxHeartbeats 4000000 in
theorem c_X7_filled_n {sc : Nat × (Nat → Int32)} {d : Nat} (I : Nat → Nat → Int32) (J : Nat → Nat → Int64) (A : zA) (hV : MV (zVm I) A) (hW : WF A) (k : Nat) (hk : k < aM A) (y : Int32) (hx : fnd A k (aN A) = none) : EvM sc (d + 7) 0 0 mX7_filled [.ref 359, .int (nI k), .int y] (zz_SH, I, J) (fun r σ => r = some (.int (-5)) ∧ ∃ I' : Nat → Nat → Int32, zSc I I' ∧ σ = (zz_SH, I', J)) := by
  have w1 := hW.1.1
  have w2 := hW.1.2.1
  refine EvM.of (by decide) rfl (Nat.le_of_ble_eq_true rfl) ?_
  show Ev _ _ _ _ _ 0 [some (.ref 359), some (.int (nI k)), some (.int y), none, none, none] [] (zz_SH, I, J) _
  refine Ev.run [(.aload_n 0, 1), (.iload_n 1, 1)] (pc' := 2) (L' := [some (.ref 359), some (.int (nI k)), some (.int y), none, none, none]) (S' := [.int (nI k), .ref 359]) rfl (by decide +kernel) rfl ?_
  refine Ev.callV0 mX7_isSentence [.int (nI k)] [] _ rfl lk_RX7_107 (by decide +kernel) (rfl) rfl rfl rfl (Nat.le_of_ble_eq_true rfl) (c_X7_isSentence I J (aM A) (nI k) hV.1.2.1 (by omega)) ?_
  rintro _ _ ⟨rfl, ⟨rfl, h2⟩ | ⟨rfl, h2⟩⟩
  · show Ev _ _ _ _ _ 5 [some (.ref 359), some (.int (nI k)), some (.int y), none, none, none] [.int (nI 1)] (zz_SH, I, J) _
    refine Ev.if_ne (off := 5) (tgt := 10) (by decide +kernel) (by decide) (fun h5 => ?_) (fun h5 => absurd h5 (by decide))
    refine Ev.run [(.aload_n 0, 1), (.iload_n 1, 1)] (pc' := 12) (L' := [some (.ref 359), some (.int (nI k)), some (.int y), none, none, none]) (S' := [.int (nI k), .ref 359]) rfl (by decide +kernel) rfl ?_
    refine Ev.callV0 mX7_foundOf [.int (nI k)] [] _ rfl lk_RX7_130 (by decide +kernel) (rfl) rfl rfl rfl (Nat.le_of_ble_eq_true rfl) (c_X7_foundOf I J A hV hW k hk) ?_
    rintro _ _ ⟨rfl, I1, hs_I1, hf, rfl⟩
    rw [hx]
    have hV1 := hs_I1.mv hV
    show Ev _ _ _ _ _ 15 [some (.ref 359), some (.int (nI k)), some (.int y), none, none, none] [.int ((-6))] (zz_SH, I1, J) _
    refine Ev.run [(.istore_n 3, 1), (.iload_n 3, 1)] (pc' := 17) (L' := [some (.ref 359), some (.int (nI k)), some (.int y), some (.int ((-6))), none, none]) (S' := [.int ((-6))]) rfl (by decide +kernel) rfl ?_
    refine Ev.if_lt (off := 12) (tgt := 29) (by decide +kernel) (by decide) (fun h17 => ?_) (fun h17 => absurd h17 (by decide))
    refine Ev.run [(.bipush (-5), 2)] (pc' := 31) (L' := [some (.ref 359), some (.int (nI k)), some (.int y), some (.int ((-6))), none, none]) (S' := [.int ((-5))]) rfl (by decide +kernel) rfl ?_
    exact Ev.iret rfl (by decide +kernel) (⟨rfl, I1, hs_I1.sc, rfl⟩)
  · exact absurd ⟨k, hk, rfl⟩ h2

set_option maxRecDepth 100000 in
set_option maxHeartbeats 4000000 in
theorem c_X7_filled_no {sc : Nat × (Nat → Int32)} {d : Nat} (I : Nat → Nat → Int32) (J : Nat → Nat → Int64) (A : zA) (hV : MV (zVm I) A) (hW : WF A) (k : Nat) (hk : k < aM A) (p v : Nat) (hx : fnd A k (aN A) = some (p, v)) (y : Int32) (hdf : ¬ dfl A k p) : EvM sc (d + 7) 0 0 mX7_filled [.ref 359, .int (nI k), .int y] (zz_SH, I, J) (fun r σ => r = some (.int (-5)) ∧ ∃ I' : Nat → Nat → Int32, zSc I I' ∧ σ = (zz_SH, I', J)) := by
  have w1 := hW.1.1
  have w2 := hW.1.2.1
  obtain ⟨hp1, hp2⟩ := fnd_ok A k _ p v hx
  have t1 := (hW.2.2.1 k hk).1
  have t2 := (hW.2.1 p hp1).1
  refine EvM.of (by decide) rfl (Nat.le_of_ble_eq_true rfl) ?_
  show Ev _ _ _ _ _ 0 [some (.ref 359), some (.int (nI k)), some (.int y), none, none, none] [] (zz_SH, I, J) _
  refine Ev.run [(.aload_n 0, 1), (.iload_n 1, 1)] (pc' := 2) (L' := [some (.ref 359), some (.int (nI k)), some (.int y), none, none, none]) (S' := [.int (nI k), .ref 359]) rfl (by decide +kernel) rfl ?_
  refine Ev.callV0 mX7_isSentence [.int (nI k)] [] _ rfl lk_RX7_107 (by decide +kernel) (rfl) rfl rfl rfl (Nat.le_of_ble_eq_true rfl) (c_X7_isSentence I J (aM A) (nI k) hV.1.2.1 (by omega)) ?_
  rintro _ _ ⟨rfl, ⟨rfl, h2⟩ | ⟨rfl, h2⟩⟩
  · show Ev _ _ _ _ _ 5 [some (.ref 359), some (.int (nI k)), some (.int y), none, none, none] [.int (nI 1)] (zz_SH, I, J) _
    refine Ev.if_ne (off := 5) (tgt := 10) (by decide +kernel) (by decide) (fun h5 => ?_) (fun h5 => absurd h5 (by decide))
    refine Ev.run [(.aload_n 0, 1), (.iload_n 1, 1)] (pc' := 12) (L' := [some (.ref 359), some (.int (nI k)), some (.int y), none, none, none]) (S' := [.int (nI k), .ref 359]) rfl (by decide +kernel) rfl ?_
    refine Ev.callV0 mX7_foundOf [.int (nI k)] [] _ rfl lk_RX7_130 (by decide +kernel) (rfl) rfl rfl rfl (Nat.le_of_ble_eq_true rfl) (c_X7_foundOf I J A hV hW k hk) ?_
    rintro _ _ ⟨rfl, I1, hs_I1, hf, rfl⟩
    rw [hx]
    have hV1 := hs_I1.mv hV
    show Ev _ _ _ _ _ 15 [some (.ref 359), some (.int (nI k)), some (.int y), none, none, none] [.int (nI p)] (zz_SH, I1, J) _
    refine Ev.run [(.istore_n 3, 1), (.iload_n 3, 1)] (pc' := 17) (L' := [some (.ref 359), some (.int (nI k)), some (.int y), some (.int (nI p)), none, none]) (S' := [.int (nI p)]) rfl (by decide +kernel) rfl ?_
    refine Ev.if_lt (off := 12) (tgt := 29) (by decide +kernel) (by decide) (fun h17 => ?_) (fun h17 => ?_)
    · have h17 : p < 0 := zz_bL_t (by omega) (by omega) h17
      exfalso; omega
    · have h17 : p ≥ 0 := zz_bL_f (by omega) (by omega) h17
      refine Ev.run [(.aload_n 0, 1), (.iload_n 1, 1), (.iload_n 3, 1)] (pc' := 23) (L' := [some (.ref 359), some (.int (nI k)), some (.int y), some (.int (nI p)), none, none]) (S' := [.int (nI p), .int (nI k), .ref 359]) rfl (by decide +kernel) rfl ?_
      refine Ev.callV0 mX7_doesFill [.int (nI k), .int (nI p)] [] _ rfl lk_RX7_133 (by decide +kernel) (rfl) rfl rfl rfl (Nat.le_of_ble_eq_true rfl) (c_X7_doesFill I1 J A hV1 hW k p hk hp1) ?_
      rintro _ _ ⟨rfl, ⟨rfl, h23⟩ | ⟨rfl, h23⟩⟩
      · exact absurd h23 hdf
      · show Ev _ _ _ _ _ 26 [some (.ref 359), some (.int (nI k)), some (.int y), some (.int (nI p)), none, none] [.int (nI 0)] (zz_SH, I1, J) _
        refine Ev.if_ne (off := 6) (tgt := 32) (by decide +kernel) (by decide) (fun h26 => absurd h26 (by decide)) (fun h26 => ?_)
        refine Ev.run [(.bipush (-5), 2)] (pc' := 31) (L' := [some (.ref 359), some (.int (nI k)), some (.int y), some (.int (nI p)), none, none]) (S' := [.int ((-5))]) rfl (by decide +kernel) rfl ?_
        exact Ev.iret rfl (by decide +kernel) (⟨rfl, I1, hs_I1.sc, rfl⟩)
  · exact absurd ⟨k, hk, rfl⟩ h2

set_option maxRecDepth 100000 in
set_option maxHeartbeats 4000000 in
theorem c_X7_filled_len {sc : Nat × (Nat → Int32)} {d : Nat} (I : Nat → Nat → Int32) (J : Nat → Nat → Int64) (A : zA) (hV : MV (zVm I) A) (hW : WF A) (k : Nat) (hk : k < aM A) (p v : Nat) (hx : fnd A k (aN A) = some (p, v)) (hdf : dfl A k p) (hy : ¬ zz_ix (-1) (gz A p)) : EvM sc (d + 7) 0 0 mX7_filled [.ref 359, .int (nI k), .int ((-1))] (zz_SH, I, J) (fun r σ => r = some (.int (nI (gz A p))) ∧ ∃ I' : Nat → Nat → Int32, zSc I I' ∧ σ = (zz_SH, I', J)) := by
  have w1 := hW.1.1
  have w2 := hW.1.2.1
  obtain ⟨hp1, hp2⟩ := fnd_ok A k _ p v hx
  have t1 := (hW.2.2.1 k hk).1
  have t2 := (hW.2.1 p hp1).1
  refine EvM.of (by decide) rfl (Nat.le_of_ble_eq_true rfl) ?_
  show Ev _ _ _ _ _ 0 [some (.ref 359), some (.int (nI k)), some (.int ((-1))), none, none, none] [] (zz_SH, I, J) _
  refine Ev.run [(.aload_n 0, 1), (.iload_n 1, 1)] (pc' := 2) (L' := [some (.ref 359), some (.int (nI k)), some (.int ((-1))), none, none, none]) (S' := [.int (nI k), .ref 359]) rfl (by decide +kernel) rfl ?_
  refine Ev.callV0 mX7_isSentence [.int (nI k)] [] _ rfl lk_RX7_107 (by decide +kernel) (rfl) rfl rfl rfl (Nat.le_of_ble_eq_true rfl) (c_X7_isSentence I J (aM A) (nI k) hV.1.2.1 (by omega)) ?_
  rintro _ _ ⟨rfl, ⟨rfl, h2⟩ | ⟨rfl, h2⟩⟩
  · show Ev _ _ _ _ _ 5 [some (.ref 359), some (.int (nI k)), some (.int ((-1))), none, none, none] [.int (nI 1)] (zz_SH, I, J) _
    refine Ev.if_ne (off := 5) (tgt := 10) (by decide +kernel) (by decide) (fun h5 => ?_) (fun h5 => absurd h5 (by decide))
    refine Ev.run [(.aload_n 0, 1), (.iload_n 1, 1)] (pc' := 12) (L' := [some (.ref 359), some (.int (nI k)), some (.int ((-1))), none, none, none]) (S' := [.int (nI k), .ref 359]) rfl (by decide +kernel) rfl ?_
    refine Ev.callV0 mX7_foundOf [.int (nI k)] [] _ rfl lk_RX7_130 (by decide +kernel) (rfl) rfl rfl rfl (Nat.le_of_ble_eq_true rfl) (c_X7_foundOf I J A hV hW k hk) ?_
    rintro _ _ ⟨rfl, I1, hs_I1, hf, rfl⟩
    rw [hx]
    have hV1 := hs_I1.mv hV
    show Ev _ _ _ _ _ 15 [some (.ref 359), some (.int (nI k)), some (.int ((-1))), none, none, none] [.int (nI p)] (zz_SH, I1, J) _
    refine Ev.run [(.istore_n 3, 1), (.iload_n 3, 1)] (pc' := 17) (L' := [some (.ref 359), some (.int (nI k)), some (.int ((-1))), some (.int (nI p)), none, none]) (S' := [.int (nI p)]) rfl (by decide +kernel) rfl ?_
    refine Ev.if_lt (off := 12) (tgt := 29) (by decide +kernel) (by decide) (fun h17 => ?_) (fun h17 => ?_)
    · have h17 : p < 0 := zz_bL_t (by omega) (by omega) h17
      exfalso; omega
    · have h17 : p ≥ 0 := zz_bL_f (by omega) (by omega) h17
      refine Ev.run [(.aload_n 0, 1), (.iload_n 1, 1), (.iload_n 3, 1)] (pc' := 23) (L' := [some (.ref 359), some (.int (nI k)), some (.int ((-1))), some (.int (nI p)), none, none]) (S' := [.int (nI p), .int (nI k), .ref 359]) rfl (by decide +kernel) rfl ?_
      refine Ev.callV0 mX7_doesFill [.int (nI k), .int (nI p)] [] _ rfl lk_RX7_133 (by decide +kernel) (rfl) rfl rfl rfl (Nat.le_of_ble_eq_true rfl) (c_X7_doesFill I1 J A hV1 hW k p hk hp1) ?_
      rintro _ _ ⟨rfl, ⟨rfl, h23⟩ | ⟨rfl, h23⟩⟩
      · show Ev _ _ _ _ _ 26 [some (.ref 359), some (.int (nI k)), some (.int ((-1))), some (.int (nI p)), none, none] [.int (nI 1)] (zz_SH, I1, J) _
        refine Ev.if_ne (off := 6) (tgt := 32) (by decide +kernel) (by decide) (fun h26 => ?_) (fun h26 => absurd h26 (by decide))
        refine Ev.run [(.iload_n 2, 1), (.iconst 0, 1), (.aload_n 0, 1), (.getfield 19, 3), (.iload_n 3, 1)] (pc' := 39) (L' := [some (.ref 359), some (.int (nI k)), some (.int ((-1))), some (.int (nI p)), none, none]) (S' := [.int (nI p), .ref 363, .int (nI 0), .int ((-1))]) rfl (by decide +kernel) rfl ?_
        refine Ev.iald p (by decide +kernel) (rfl) (rfl) (by omega) (by first | decide | omega) ?_
        dsimp only
        rw [show I1 363 p = nI (gz A p) from (hV1.2.1 p hp1).2.2.1]
        refine Ev.run [(.iconst 1, 1), (.isub, 1)] (pc' := 42) (L' := [some (.ref 359), some (.int (nI k)), some (.int ((-1))), some (.int (nI p)), none, none]) (S' := [.int (nI (gz A p) - nI 1), .int (nI 0), .int ((-1))]) rfl (by decide +kernel) rfl ?_
        rw [show nI (gz A p) - nI 1 = nI (gz A p) - nI 1 from rfl]
        refine Ev.callS0 mX7_in [.int ((-1)), .int (nI 0), .int (nI (gz A p) - nI 1)] [] _ rfl lk_RX7_79 (by decide +kernel) rfl (Nat.le_of_ble_eq_true rfl) (c_X7_in I1 J ((-1)) (nI 0) (nI (gz A p) - nI 1)) ?_
        rintro _ _ ⟨rfl, ⟨rfl, h42⟩ | ⟨rfl, h42⟩⟩
        · rw [zz_ix16 (by omega)] at h42; exact absurd h42 hy
        · show Ev _ _ _ _ _ 45 [some (.ref 359), some (.int (nI k)), some (.int ((-1))), some (.int (nI p)), none, none] [.int (nI 0)] (zz_SH, I1, J) _
          refine Ev.if_ne (off := 20) (tgt := 65) (by decide +kernel) (by decide) (fun h45 => absurd h45 (by decide)) (fun h45 => ?_)
          refine Ev.run [(.iload_n 2, 1), (.iconst (-1), 1)] (pc' := 50) (L' := [some (.ref 359), some (.int (nI k)), some (.int ((-1))), some (.int (nI p)), none, none]) (S' := [.int ((-1)), .int ((-1))]) rfl (by decide +kernel) rfl ?_
          refine Ev.icmp_ne (off := 12) (tgt := 62) (by decide +kernel) (by decide) (fun h50 => absurd h50 (fun q => q rfl)) (fun h50 => ?_)
          refine Ev.run [(.aload_n 0, 1), (.getfield 19, 3), (.iload_n 3, 1)] (pc' := 58) (L' := [some (.ref 359), some (.int (nI k)), some (.int ((-1))), some (.int (nI p)), none, none]) (S' := [.int (nI p), .ref 363]) rfl (by decide +kernel) rfl ?_
          refine Ev.iald p (by decide +kernel) (rfl) (rfl) (by omega) (by first | decide | omega) ?_
          dsimp only
          rw [show I1 363 p = nI (gz A p) from (hV1.2.1 p hp1).2.2.1]
          refine Ev.goto (off := 5) (tgt := 64) (by decide +kernel) (by decide) ?_
          exact Ev.iret rfl (by decide +kernel) (⟨rfl, I1, hs_I1.sc, rfl⟩)
      · exact absurd hdf h23
  · exact absurd ⟨k, hk, rfl⟩ h2

set_option maxRecDepth 100000 in
set_option maxHeartbeats 4000000 in
theorem c_X7_filled_out {sc : Nat × (Nat → Int32)} {d : Nat} (I : Nat → Nat → Int32) (J : Nat → Nat → Int64) (A : zA) (hV : MV (zVm I) A) (hW : WF A) (k : Nat) (hk : k < aM A) (p v : Nat) (hx : fnd A k (aN A) = some (p, v)) (y : Int32) (hdf : dfl A k p) (hy : ¬ zz_ix y (gz A p)) (hy1 : ¬ y = (-1)) : EvM sc (d + 7) 0 0 mX7_filled [.ref 359, .int (nI k), .int y] (zz_SH, I, J) (fun r σ => r = some (.int (-6)) ∧ ∃ I' : Nat → Nat → Int32, zSc I I' ∧ σ = (zz_SH, I', J)) := by
  have w1 := hW.1.1
  have w2 := hW.1.2.1
  obtain ⟨hp1, hp2⟩ := fnd_ok A k _ p v hx
  have t1 := (hW.2.2.1 k hk).1
  have t2 := (hW.2.1 p hp1).1
  refine EvM.of (by decide) rfl (Nat.le_of_ble_eq_true rfl) ?_
  show Ev _ _ _ _ _ 0 [some (.ref 359), some (.int (nI k)), some (.int y), none, none, none] [] (zz_SH, I, J) _
  refine Ev.run [(.aload_n 0, 1), (.iload_n 1, 1)] (pc' := 2) (L' := [some (.ref 359), some (.int (nI k)), some (.int y), none, none, none]) (S' := [.int (nI k), .ref 359]) rfl (by decide +kernel) rfl ?_
  refine Ev.callV0 mX7_isSentence [.int (nI k)] [] _ rfl lk_RX7_107 (by decide +kernel) (rfl) rfl rfl rfl (Nat.le_of_ble_eq_true rfl) (c_X7_isSentence I J (aM A) (nI k) hV.1.2.1 (by omega)) ?_
  rintro _ _ ⟨rfl, ⟨rfl, h2⟩ | ⟨rfl, h2⟩⟩
  · show Ev _ _ _ _ _ 5 [some (.ref 359), some (.int (nI k)), some (.int y), none, none, none] [.int (nI 1)] (zz_SH, I, J) _
    refine Ev.if_ne (off := 5) (tgt := 10) (by decide +kernel) (by decide) (fun h5 => ?_) (fun h5 => absurd h5 (by decide))
    refine Ev.run [(.aload_n 0, 1), (.iload_n 1, 1)] (pc' := 12) (L' := [some (.ref 359), some (.int (nI k)), some (.int y), none, none, none]) (S' := [.int (nI k), .ref 359]) rfl (by decide +kernel) rfl ?_
    refine Ev.callV0 mX7_foundOf [.int (nI k)] [] _ rfl lk_RX7_130 (by decide +kernel) (rfl) rfl rfl rfl (Nat.le_of_ble_eq_true rfl) (c_X7_foundOf I J A hV hW k hk) ?_
    rintro _ _ ⟨rfl, I1, hs_I1, hf, rfl⟩
    rw [hx]
    have hV1 := hs_I1.mv hV
    show Ev _ _ _ _ _ 15 [some (.ref 359), some (.int (nI k)), some (.int y), none, none, none] [.int (nI p)] (zz_SH, I1, J) _
    refine Ev.run [(.istore_n 3, 1), (.iload_n 3, 1)] (pc' := 17) (L' := [some (.ref 359), some (.int (nI k)), some (.int y), some (.int (nI p)), none, none]) (S' := [.int (nI p)]) rfl (by decide +kernel) rfl ?_
    refine Ev.if_lt (off := 12) (tgt := 29) (by decide +kernel) (by decide) (fun h17 => ?_) (fun h17 => ?_)
    · have h17 : p < 0 := zz_bL_t (by omega) (by omega) h17
      exfalso; omega
    · have h17 : p ≥ 0 := zz_bL_f (by omega) (by omega) h17
      refine Ev.run [(.aload_n 0, 1), (.iload_n 1, 1), (.iload_n 3, 1)] (pc' := 23) (L' := [some (.ref 359), some (.int (nI k)), some (.int y), some (.int (nI p)), none, none]) (S' := [.int (nI p), .int (nI k), .ref 359]) rfl (by decide +kernel) rfl ?_
      refine Ev.callV0 mX7_doesFill [.int (nI k), .int (nI p)] [] _ rfl lk_RX7_133 (by decide +kernel) (rfl) rfl rfl rfl (Nat.le_of_ble_eq_true rfl) (c_X7_doesFill I1 J A hV1 hW k p hk hp1) ?_
      rintro _ _ ⟨rfl, ⟨rfl, h23⟩ | ⟨rfl, h23⟩⟩
      · show Ev _ _ _ _ _ 26 [some (.ref 359), some (.int (nI k)), some (.int y), some (.int (nI p)), none, none] [.int (nI 1)] (zz_SH, I1, J) _
        refine Ev.if_ne (off := 6) (tgt := 32) (by decide +kernel) (by decide) (fun h26 => ?_) (fun h26 => absurd h26 (by decide))
        refine Ev.run [(.iload_n 2, 1), (.iconst 0, 1), (.aload_n 0, 1), (.getfield 19, 3), (.iload_n 3, 1)] (pc' := 39) (L' := [some (.ref 359), some (.int (nI k)), some (.int y), some (.int (nI p)), none, none]) (S' := [.int (nI p), .ref 363, .int (nI 0), .int y]) rfl (by decide +kernel) rfl ?_
        refine Ev.iald p (by decide +kernel) (rfl) (rfl) (by omega) (by first | decide | omega) ?_
        dsimp only
        rw [show I1 363 p = nI (gz A p) from (hV1.2.1 p hp1).2.2.1]
        refine Ev.run [(.iconst 1, 1), (.isub, 1)] (pc' := 42) (L' := [some (.ref 359), some (.int (nI k)), some (.int y), some (.int (nI p)), none, none]) (S' := [.int (nI (gz A p) - nI 1), .int (nI 0), .int y]) rfl (by decide +kernel) rfl ?_
        rw [show nI (gz A p) - nI 1 = nI (gz A p) - nI 1 from rfl]
        refine Ev.callS0 mX7_in [.int y, .int (nI 0), .int (nI (gz A p) - nI 1)] [] _ rfl lk_RX7_79 (by decide +kernel) rfl (Nat.le_of_ble_eq_true rfl) (c_X7_in I1 J y (nI 0) (nI (gz A p) - nI 1)) ?_
        rintro _ _ ⟨rfl, ⟨rfl, h42⟩ | ⟨rfl, h42⟩⟩
        · rw [zz_ix16 (by omega)] at h42; exact absurd h42 hy
        · show Ev _ _ _ _ _ 45 [some (.ref 359), some (.int (nI k)), some (.int y), some (.int (nI p)), none, none] [.int (nI 0)] (zz_SH, I1, J) _
          refine Ev.if_ne (off := 20) (tgt := 65) (by decide +kernel) (by decide) (fun h45 => absurd h45 (by decide)) (fun h45 => ?_)
          refine Ev.run [(.iload_n 2, 1), (.iconst (-1), 1)] (pc' := 50) (L' := [some (.ref 359), some (.int (nI k)), some (.int y), some (.int (nI p)), none, none]) (S' := [.int ((-1)), .int y]) rfl (by decide +kernel) rfl ?_
          refine Ev.icmp_ne (off := 12) (tgt := 62) (by decide +kernel) (by decide) (fun h50 => ?_) (fun h50 => absurd h50 hy1)
          refine Ev.run [(.bipush (-6), 2)] (pc' := 64) (L' := [some (.ref 359), some (.int (nI k)), some (.int y), some (.int (nI p)), none, none]) (S' := [.int ((-6))]) rfl (by decide +kernel) rfl ?_
          exact Ev.iret rfl (by decide +kernel) (⟨rfl, I1, hs_I1.sc, rfl⟩)
      · exact absurd hdf h23
  · exact absurd ⟨k, hk, rfl⟩ h2

set_option maxRecDepth 100000 in
set_option maxHeartbeats 4000000 in
theorem l_X7_filled {sc : Nat × (Nat → Int32)} {d : Nat} (I : Nat → Nat → Int32) (J : Nat → Nat → Int64) (A : zA) (hV : MV (zVm I) A) (hW : WF A) (k : Nat) (hk : k < aM A) (p v : Nat) (hx : fnd A k (aN A) = some (p, v)) (j0 : Nat) (hj0 : j0 < gz A p) (I1 : Nat → Nat → Int32) (hs : zSc I I1) (hdf : dfl A k p) : ∀ (μ : Nat) (j : Nat), fz A p - j < μ → (j ≤ fz A p) → (lkf (ff A p) (tt A k) (gg A p j0) j (fz A p - j) = lkf (ff A p) (tt A k) (gg A p j0) 0 (fz A p)) →  Ev sc (d + 7) 0 0 mX7_filled 81 [some (.ref 359), some (.int (nI k)), some (.int (nI j0)), some (.int (nI p)), some (.int (nI (gg A p j0))), some (.int (nI j))] [] (zz_SH, I1, J) (fun r σ => r = some (.int (nI (if 48 ≤ gg A p j0 ∧ gg A p j0 ≤ 57 then lkf (ff A p) (tt A k) (gg A p j0) 0 (fz A p) else gg A p j0))) ∧ ∃ I' : Nat → Nat → Int32, zSc I I' ∧ σ = (zz_SH, I', J)) := by
  intro μ
  induction μ with
  | zero => intro j hμ; exact absurd hμ (Nat.not_lt_zero _)
  | succ μ ih =>
    intro j hμ hj hlk
    have w1 := hW.1.1
    have w2 := hW.1.2.1
    obtain ⟨hp1, hp2⟩ := fnd_ok A k _ p v hx
    have t1 := (hW.2.2.1 k hk).1
    have t2 := (hW.2.1 p hp1).1
    have hV1 := hs.mv hV
    have g1 := ((hW.2.1 p hp1).2.2.1 j0 hj0).2
    have g2 : j < fz A p → ff A p j ≤ 126 := fun q => ((hW.2.1 p hp1).2.1 j q).2
    refine Ev.run [(.iload 5, 2), (.aload_n 0, 1), (.getfield 16, 3), (.iload_n 3, 1)] (pc' := 88) (L' := [some (.ref 359), some (.int (nI k)), some (.int (nI j0)), some (.int (nI p)), some (.int (nI (gg A p j0))), some (.int (nI j))]) (S' := [.int (nI p), .ref 362, .int (nI j)]) rfl (by decide +kernel) rfl ?_
    refine Ev.iald p (by decide +kernel) (rfl) (rfl) (by omega) (by first | decide | omega) ?_
    dsimp only
    rw [show I1 362 p = nI (fz A p) from (hV1.2.1 p hp1).2.1]
    refine Ev.icmp_ge (off := 47) (tgt := 136) (by decide +kernel) (by decide) (fun h89 => ?_) (fun h89 => ?_)
    · have h89 : j ≥ (fz A p) := zz_bG_t (by omega) (by omega) h89
      refine Ev.run [(.iload 4, 2)] (pc' := 138) (L' := [some (.ref 359), some (.int (nI k)), some (.int (nI j0)), some (.int (nI p)), some (.int (nI (gg A p j0))), some (.int (nI j))]) (S' := [.int (nI (gg A p j0))]) rfl (by decide +kernel) rfl ?_
      exact Ev.iret rfl (by decide +kernel) (⟨by by_cases hq : 48 ≤ gg A p j0 ∧ gg A p j0 ≤ 57; rw [if_pos hq, ← hlk, show fz A p - j = 0 by omega, lkf]; rw [if_neg hq], I1, hs, rfl⟩)
    · have h89 : j < (fz A p) := zz_bG_f (by omega) (by omega) h89
      refine Ev.run [(.iload 4, 2)] (pc' := 94) (L' := [some (.ref 359), some (.int (nI k)), some (.int (nI j0)), some (.int (nI p)), some (.int (nI (gg A p j0))), some (.int (nI j))]) (S' := [.int (nI (gg A p j0))]) rfl (by decide +kernel) rfl ?_
      refine Ev.callS0 mX7_isNumber [.int (nI (gg A p j0))] [] _ rfl lk_RX7_92 (by decide +kernel) rfl (Nat.le_of_ble_eq_true rfl) (c_X7_isNumber I1 J (nI (gg A p j0))) ?_
      rintro _ _ ⟨rfl, ⟨rfl, h94⟩ | ⟨rfl, h94⟩⟩
      · show Ev _ _ _ _ _ 97 [some (.ref 359), some (.int (nI k)), some (.int (nI j0)), some (.int (nI p)), some (.int (nI (gg A p j0))), some (.int (nI j))] [.int (nI 1)] (zz_SH, I1, J) _
        rw [zz_num (by omega)] at h94
        refine Ev.if_eq (off := 39) (tgt := 136) (by decide +kernel) (by decide) (fun h97 => absurd h97 (by decide)) (fun h97 => ?_)
        refine Ev.run [(.aload_n 0, 1), (.getfield 22, 3), (.bipush 12, 2), (.iload_n 3, 1), (.imul, 1)] (pc' := 108) (L' := [some (.ref 359), some (.int (nI k)), some (.int (nI j0)), some (.int (nI p)), some (.int (nI (gg A p j0))), some (.int (nI j))]) (S' := [.int (nI 12 * nI p), .ref 364]) rfl (by decide +kernel) rfl ?_
        rw [pk_mul 12 p]
        refine Ev.run [(.iload 5, 2), (.iadd, 1)] (pc' := 111) (L' := [some (.ref 359), some (.int (nI k)), some (.int (nI j0)), some (.int (nI p)), some (.int (nI (gg A p j0))), some (.int (nI j))]) (S' := [.int (nI (12 * p) + nI j), .ref 364]) rfl (by decide +kernel) rfl ?_
        rw [nI_add (12 * p) j]
        refine Ev.iald ((12 * p) + j) (by decide +kernel) (rfl) (rfl) (by omega) (by first | decide | omega) ?_
        dsimp only
        rw [show I1 364 (12 * p + j) = nI (ff A p j) from (hV1.2.1 p hp1).2.2.2.1 j (by omega)]
        refine Ev.run [(.iload 4, 2)] (pc' := 114) (L' := [some (.ref 359), some (.int (nI k)), some (.int (nI j0)), some (.int (nI p)), some (.int (nI (gg A p j0))), some (.int (nI j))]) (S' := [.int (nI (gg A p j0)), .int (nI (ff A p j))]) rfl (by decide +kernel) rfl ?_
        refine Ev.icmp_ne (off := 16) (tgt := 130) (by decide +kernel) (by decide) (fun h114 => ?_) (fun h114 => ?_)
        · have h114 : ¬ (ff A p j) = (gg A p j0) := zz_bE_f (by omega) (by omega) h114
          refine Ev.run [(.iinc 5 1, 3)] (pc' := 133) (L' := [some (.ref 359), some (.int (nI k)), some (.int (nI j0)), some (.int (nI p)), some (.int (nI (gg A p j0))), some (.int (nI j + 1))]) (S' := []) rfl (by decide +kernel) rfl ?_
          rw [nI_1 j]
          refine Ev.goto (off := (-52)) (tgt := 81) (by decide +kernel) (by decide) ?_
          exact ih (j + 1) (by omega) (by omega) (by rw [← hlk, show fz A p - j = (fz A p - (j + 1)) + 1 by omega, lkf, if_neg h114])
        · have h114 : (ff A p j) = (gg A p j0) := zz_bE_t (by omega) (by omega) h114
          have h114 : ff A p j = gg A p j0 := h114
          refine Ev.run [(.aload_n 0, 1), (.getfield 31, 3), (.bipush 12, 2), (.iload_n 1, 1), (.imul, 1)] (pc' := 125) (L' := [some (.ref 359), some (.int (nI k)), some (.int (nI j0)), some (.int (nI p)), some (.int (nI (gg A p j0))), some (.int (nI j))]) (S' := [.int (nI 12 * nI k), .ref 367]) rfl (by decide +kernel) rfl ?_
          rw [pk_mul 12 k]
          refine Ev.run [(.iload 5, 2), (.iadd, 1)] (pc' := 128) (L' := [some (.ref 359), some (.int (nI k)), some (.int (nI j0)), some (.int (nI p)), some (.int (nI (gg A p j0))), some (.int (nI j))]) (S' := [.int (nI (12 * k) + nI j), .ref 367]) rfl (by decide +kernel) rfl ?_
          rw [nI_add (12 * k) j]
          refine Ev.iald ((12 * k) + j) (by decide +kernel) (rfl) (rfl) (by have := hdf.1; omega) (by first | decide | omega) ?_
          dsimp only
          rw [show I1 367 (12 * k + j) = nI (tt A k j) from (hV1.2.2.1 k hk).2 j (by have := hdf.1; omega)]
          exact Ev.iret rfl (by decide +kernel) (⟨by rw [if_pos h94, ← hlk, show fz A p - j = (fz A p - j - 1) + 1 by omega, lkf, if_pos h114], I1, hs, rfl⟩)
      · show Ev _ _ _ _ _ 97 [some (.ref 359), some (.int (nI k)), some (.int (nI j0)), some (.int (nI p)), some (.int (nI (gg A p j0))), some (.int (nI j))] [.int (nI 0)] (zz_SH, I1, J) _
        rw [zz_num (by omega)] at h94
        refine Ev.if_eq (off := 39) (tgt := 136) (by decide +kernel) (by decide) (fun h97 => ?_) (fun h97 => absurd h97 (by decide))
        refine Ev.run [(.iload 4, 2)] (pc' := 138) (L' := [some (.ref 359), some (.int (nI k)), some (.int (nI j0)), some (.int (nI p)), some (.int (nI (gg A p j0))), some (.int (nI j))]) (S' := [.int (nI (gg A p j0))]) rfl (by decide +kernel) rfl ?_
        exact Ev.iret rfl (by decide +kernel) (⟨by rw [if_neg h94], I1, hs, rfl⟩)

set_option maxRecDepth 100000 in
set_option maxHeartbeats 4000000 in
theorem c_X7_filled_in {sc : Nat × (Nat → Int32)} {d : Nat} (I : Nat → Nat → Int32) (J : Nat → Nat → Int64) (A : zA) (hV : MV (zVm I) A) (hW : WF A) (k : Nat) (hk : k < aM A) (p v : Nat) (hx : fnd A k (aN A) = some (p, v)) (hdf : dfl A k p) (j0 : Nat) (hj0 : j0 < gz A p) : EvM sc (d + 7) 0 0 mX7_filled [.ref 359, .int (nI k), .int (nI j0)] (zz_SH, I, J) (fun r σ => r = some (.int (nI (if 48 ≤ gg A p j0 ∧ gg A p j0 ≤ 57 then lkf (ff A p) (tt A k) (gg A p j0) 0 (fz A p) else gg A p j0))) ∧ ∃ I' : Nat → Nat → Int32, zSc I I' ∧ σ = (zz_SH, I', J)) := by
  have w1 := hW.1.1
  have w2 := hW.1.2.1
  obtain ⟨hp1, hp2⟩ := fnd_ok A k _ p v hx
  have t1 := (hW.2.2.1 k hk).1
  have t2 := (hW.2.1 p hp1).1
  refine EvM.of (by decide) rfl (Nat.le_of_ble_eq_true rfl) ?_
  show Ev _ _ _ _ _ 0 [some (.ref 359), some (.int (nI k)), some (.int (nI j0)), none, none, none] [] (zz_SH, I, J) _
  refine Ev.run [(.aload_n 0, 1), (.iload_n 1, 1)] (pc' := 2) (L' := [some (.ref 359), some (.int (nI k)), some (.int (nI j0)), none, none, none]) (S' := [.int (nI k), .ref 359]) rfl (by decide +kernel) rfl ?_
  refine Ev.callV0 mX7_isSentence [.int (nI k)] [] _ rfl lk_RX7_107 (by decide +kernel) (rfl) rfl rfl rfl (Nat.le_of_ble_eq_true rfl) (c_X7_isSentence I J (aM A) (nI k) hV.1.2.1 (by omega)) ?_
  rintro _ _ ⟨rfl, ⟨rfl, h2⟩ | ⟨rfl, h2⟩⟩
  · show Ev _ _ _ _ _ 5 [some (.ref 359), some (.int (nI k)), some (.int (nI j0)), none, none, none] [.int (nI 1)] (zz_SH, I, J) _
    refine Ev.if_ne (off := 5) (tgt := 10) (by decide +kernel) (by decide) (fun h5 => ?_) (fun h5 => absurd h5 (by decide))
    refine Ev.run [(.aload_n 0, 1), (.iload_n 1, 1)] (pc' := 12) (L' := [some (.ref 359), some (.int (nI k)), some (.int (nI j0)), none, none, none]) (S' := [.int (nI k), .ref 359]) rfl (by decide +kernel) rfl ?_
    refine Ev.callV0 mX7_foundOf [.int (nI k)] [] _ rfl lk_RX7_130 (by decide +kernel) (rfl) rfl rfl rfl (Nat.le_of_ble_eq_true rfl) (c_X7_foundOf I J A hV hW k hk) ?_
    rintro _ _ ⟨rfl, I1, hs_I1, hf, rfl⟩
    rw [hx]
    have hV1 := hs_I1.mv hV
    show Ev _ _ _ _ _ 15 [some (.ref 359), some (.int (nI k)), some (.int (nI j0)), none, none, none] [.int (nI p)] (zz_SH, I1, J) _
    refine Ev.run [(.istore_n 3, 1), (.iload_n 3, 1)] (pc' := 17) (L' := [some (.ref 359), some (.int (nI k)), some (.int (nI j0)), some (.int (nI p)), none, none]) (S' := [.int (nI p)]) rfl (by decide +kernel) rfl ?_
    refine Ev.if_lt (off := 12) (tgt := 29) (by decide +kernel) (by decide) (fun h17 => ?_) (fun h17 => ?_)
    · have h17 : p < 0 := zz_bL_t (by omega) (by omega) h17
      exfalso; omega
    · have h17 : p ≥ 0 := zz_bL_f (by omega) (by omega) h17
      refine Ev.run [(.aload_n 0, 1), (.iload_n 1, 1), (.iload_n 3, 1)] (pc' := 23) (L' := [some (.ref 359), some (.int (nI k)), some (.int (nI j0)), some (.int (nI p)), none, none]) (S' := [.int (nI p), .int (nI k), .ref 359]) rfl (by decide +kernel) rfl ?_
      refine Ev.callV0 mX7_doesFill [.int (nI k), .int (nI p)] [] _ rfl lk_RX7_133 (by decide +kernel) (rfl) rfl rfl rfl (Nat.le_of_ble_eq_true rfl) (c_X7_doesFill I1 J A hV1 hW k p hk hp1) ?_
      rintro _ _ ⟨rfl, ⟨rfl, h23⟩ | ⟨rfl, h23⟩⟩
      · show Ev _ _ _ _ _ 26 [some (.ref 359), some (.int (nI k)), some (.int (nI j0)), some (.int (nI p)), none, none] [.int (nI 1)] (zz_SH, I1, J) _
        refine Ev.if_ne (off := 6) (tgt := 32) (by decide +kernel) (by decide) (fun h26 => ?_) (fun h26 => absurd h26 (by decide))
        refine Ev.run [(.iload_n 2, 1), (.iconst 0, 1), (.aload_n 0, 1), (.getfield 19, 3), (.iload_n 3, 1)] (pc' := 39) (L' := [some (.ref 359), some (.int (nI k)), some (.int (nI j0)), some (.int (nI p)), none, none]) (S' := [.int (nI p), .ref 363, .int (nI 0), .int (nI j0)]) rfl (by decide +kernel) rfl ?_
        refine Ev.iald p (by decide +kernel) (rfl) (rfl) (by omega) (by first | decide | omega) ?_
        dsimp only
        rw [show I1 363 p = nI (gz A p) from (hV1.2.1 p hp1).2.2.1]
        refine Ev.run [(.iconst 1, 1), (.isub, 1)] (pc' := 42) (L' := [some (.ref 359), some (.int (nI k)), some (.int (nI j0)), some (.int (nI p)), none, none]) (S' := [.int (nI (gz A p) - nI 1), .int (nI 0), .int (nI j0)]) rfl (by decide +kernel) rfl ?_
        rw [show nI (gz A p) - nI 1 = nI (gz A p) - nI 1 from rfl]
        refine Ev.callS0 mX7_in [.int (nI j0), .int (nI 0), .int (nI (gz A p) - nI 1)] [] _ rfl lk_RX7_79 (by decide +kernel) rfl (Nat.le_of_ble_eq_true rfl) (c_X7_in I1 J (nI j0) (nI 0) (nI (gz A p) - nI 1)) ?_
        rintro _ _ ⟨rfl, ⟨rfl, h42⟩ | ⟨rfl, h42⟩⟩
        · show Ev _ _ _ _ _ 45 [some (.ref 359), some (.int (nI k)), some (.int (nI j0)), some (.int (nI p)), none, none] [.int (nI 1)] (zz_SH, I1, J) _
          refine Ev.if_ne (off := 20) (tgt := 65) (by decide +kernel) (by decide) (fun h45 => ?_) (fun h45 => absurd h45 (by decide))
          refine Ev.run [(.aload_n 0, 1), (.getfield 25, 3), (.bipush 12, 2), (.iload_n 3, 1), (.imul, 1)] (pc' := 73) (L' := [some (.ref 359), some (.int (nI k)), some (.int (nI j0)), some (.int (nI p)), none, none]) (S' := [.int (nI 12 * nI p), .ref 365]) rfl (by decide +kernel) rfl ?_
          rw [pk_mul 12 p]
          refine Ev.run [(.iload_n 2, 1), (.iadd, 1)] (pc' := 75) (L' := [some (.ref 359), some (.int (nI k)), some (.int (nI j0)), some (.int (nI p)), none, none]) (S' := [.int (nI (12 * p) + nI j0), .ref 365]) rfl (by decide +kernel) rfl ?_
          rw [nI_add (12 * p) j0]
          refine Ev.iald ((12 * p) + j0) (by decide +kernel) (rfl) (rfl) (by omega) (by first | decide | omega) ?_
          dsimp only
          rw [show I1 365 (12 * p + j0) = nI (gg A p j0) from (hV1.2.1 p hp1).2.2.2.2 j0 hj0]
          refine Ev.run [(.istore 4, 2), (.iconst 0, 1), (.istore 5, 2)] (pc' := 81) (L' := [some (.ref 359), some (.int (nI k)), some (.int (nI j0)), some (.int (nI p)), some (.int (nI (gg A p j0))), some (.int (nI 0))]) (S' := []) rfl (by decide +kernel) rfl ?_
          exact l_X7_filled I J A hV hW k hk p v hx j0 hj0 I1 hs_I1.sc hdf (fz A p + 1) 0 (by omega) (by omega) rfl
        · rw [zz_ix16 (by omega)] at h42; exact absurd ⟨j0, hj0, rfl⟩ h42
      · exact absurd hdf h23
  · exact absurd ⟨k, hk, rfl⟩ h2
