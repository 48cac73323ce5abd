/-! ===== the model: goes, learnt, clash ===== -/
def gsu (A : zA) (w v : Nat) : Nat := if pei A w v (aN A) = 0 then 0 else 2 * pbo A w v (aN A) / Nat.gcd (2 * pbo A w v (aN A)) (pei A w v (aN A))
def gsl (A : zA) (w v : Nat) : Nat := if pei A w v (aN A) = 0 then 1 else pei A w v (aN A) / Nat.gcd (2 * pbo A w v (aN A)) (pei A w v (aN A))
theorem zz_gcd {a b : Nat} : Nat.gcd b (a % b) = Nat.gcd a b := by
  rw [Nat.gcd_comm a b, Nat.gcd_rec b a, Nat.gcd_comm]

set_option maxRecDepth 100000 in
set_option maxHeartbeats 4000000 in
theorem c_X7_goes_u {sc : Nat × (Nat → Int32)} {d : Nat} (I : Nat → Nat → Int32) (J : Nat → Nat → Int64) (x y z : Int32) (hxy : ¬ (zz_ix x 16 ∧ zz_ix y 16)) : EvM sc (d + 2) 0 0 mX7_goes [.ref 359, .int x, .int y, .int z] (zz_SH, I, J) (fun r σ => r = some (.long ((-1000000000000000001))) ∧ σ = (zz_SH, I, J)) := by
  refine EvM.of (by decide) rfl (Nat.le_of_ble_eq_true rfl) ?_
  show Ev _ _ _ _ _ 0 [some (.ref 359), some (.int x), some (.int y), some (.int z), none, none, none] [] (zz_SH, I, J) _
  refine Ev.run [(.iload_n 1, 1)] (pc' := 1) (L' := [some (.ref 359), some (.int x), some (.int y), some (.int z), none, none, none]) (S' := [.int x]) rfl (by decide +kernel) rfl ?_
  refine Ev.callS0 mX7_isWord [.int x] [] _ rfl lk_RX7_162 (by decide +kernel) rfl (Nat.le_of_ble_eq_true rfl) (c_X7_isWord I J x) ?_
  rintro _ _ ⟨rfl, ⟨rfl, h1⟩ | ⟨rfl, h1⟩⟩
  · show Ev _ _ _ _ _ 4 [some (.ref 359), some (.int x), some (.int y), some (.int z), none, none, none] [.int (nI 1)] (zz_SH, I, J) _
    refine Ev.if_eq (off := 10) (tgt := 14) (by decide +kernel) (by decide) (fun h4 => absurd h4 (by decide)) (fun h4 => ?_)
    refine Ev.run [(.iload_n 2, 1)] (pc' := 8) (L' := [some (.ref 359), some (.int x), some (.int y), some (.int z), none, none, none]) (S' := [.int y]) rfl (by decide +kernel) rfl ?_
    refine Ev.callS0 mX7_isWord [.int y] [] _ rfl lk_RX7_162 (by decide +kernel) rfl (Nat.le_of_ble_eq_true rfl) (c_X7_isWord I J y) ?_
    rintro _ _ ⟨rfl, ⟨rfl, h8⟩ | ⟨rfl, h8⟩⟩
    · exact absurd ⟨h1, h8⟩ hxy
    · show Ev _ _ _ _ _ 11 [some (.ref 359), some (.int x), some (.int y), some (.int z), none, none, none] [.int (nI 0)] (zz_SH, I, J) _
      refine Ev.if_ne (off := 7) (tgt := 18) (by decide +kernel) (by decide) (fun h11 => absurd h11 (by decide)) (fun h11 => ?_)
      refine Ev.ldc2 (idx := 180) (v := (-1000000000000000001)) (by decide +kernel) (by decide +kernel) ?_
      exact Ev.lret rfl (by decide +kernel) (⟨rfl, rfl⟩)
  · show Ev _ _ _ _ _ 4 [some (.ref 359), some (.int x), some (.int y), some (.int z), none, none, none] [.int (nI 0)] (zz_SH, I, J) _
    refine Ev.if_eq (off := 10) (tgt := 14) (by decide +kernel) (by decide) (fun h4 => ?_) (fun h4 => absurd h4 (by decide))
    refine Ev.ldc2 (idx := 180) (v := (-1000000000000000001)) (by decide +kernel) (by decide +kernel) ?_
    exact Ev.lret rfl (by decide +kernel) (⟨rfl, rfl⟩)

set_option maxRecDepth 100000 in
set_option maxHeartbeats 4000000 in
theorem c_X7_goes_o {sc : Nat × (Nat → Int32)} {d : Nat} (I : Nat → Nat → Int32) (J : Nat → Nat → Int64) (w v : Nat) (hw : w < 16) (hv : v < 16) (z : Int32) (hz : ¬ zz_ix z 2) : EvM sc (d + 2) 0 0 mX7_goes [.ref 359, .int (nI w), .int (nI v), .int z] (zz_SH, I, J) (fun r σ => r = some (.long ((-1000000000000000002))) ∧ σ = (zz_SH, I, J)) := by
  refine EvM.of (by decide) rfl (Nat.le_of_ble_eq_true rfl) ?_
  show Ev _ _ _ _ _ 0 [some (.ref 359), some (.int (nI w)), some (.int (nI v)), some (.int z), none, none, none] [] (zz_SH, I, J) _
  refine Ev.run [(.iload_n 1, 1)] (pc' := 1) (L' := [some (.ref 359), some (.int (nI w)), some (.int (nI v)), some (.int z), none, none, none]) (S' := [.int (nI w)]) rfl (by decide +kernel) rfl ?_
  refine Ev.callS0 mX7_isWord [.int (nI w)] [] _ rfl lk_RX7_162 (by decide +kernel) rfl (Nat.le_of_ble_eq_true rfl) (c_X7_isWord I J (nI w)) ?_
  rintro _ _ ⟨rfl, ⟨rfl, h1⟩ | ⟨rfl, h1⟩⟩
  · show Ev _ _ _ _ _ 4 [some (.ref 359), some (.int (nI w)), some (.int (nI v)), some (.int z), none, none, none] [.int (nI 1)] (zz_SH, I, J) _
    refine Ev.if_eq (off := 10) (tgt := 14) (by decide +kernel) (by decide) (fun h4 => absurd h4 (by decide)) (fun h4 => ?_)
    refine Ev.run [(.iload_n 2, 1)] (pc' := 8) (L' := [some (.ref 359), some (.int (nI w)), some (.int (nI v)), some (.int z), none, none, none]) (S' := [.int (nI v)]) rfl (by decide +kernel) rfl ?_
    refine Ev.callS0 mX7_isWord [.int (nI v)] [] _ rfl lk_RX7_162 (by decide +kernel) rfl (Nat.le_of_ble_eq_true rfl) (c_X7_isWord I J (nI v)) ?_
    rintro _ _ ⟨rfl, ⟨rfl, h8⟩ | ⟨rfl, h8⟩⟩
    · show Ev _ _ _ _ _ 11 [some (.ref 359), some (.int (nI w)), some (.int (nI v)), some (.int z), none, none, none] [.int (nI 1)] (zz_SH, I, J) _
      refine Ev.if_ne (off := 7) (tgt := 18) (by decide +kernel) (by decide) (fun h11 => ?_) (fun h11 => absurd h11 (by decide))
      refine Ev.run [(.iload_n 3, 1), (.iconst 0, 1), (.iconst 1, 1)] (pc' := 21) (L' := [some (.ref 359), some (.int (nI w)), some (.int (nI v)), some (.int z), none, none, none]) (S' := [.int (nI 1), .int (nI 0), .int z]) rfl (by decide +kernel) rfl ?_
      refine Ev.callS0 mX7_in [.int z, .int (nI 0), .int (nI 1)] [] _ rfl lk_RX7_79 (by decide +kernel) rfl (Nat.le_of_ble_eq_true rfl) (c_X7_in I J z (nI 0) (nI 1)) ?_
      rintro _ _ ⟨rfl, ⟨rfl, h21⟩ | ⟨rfl, h21⟩⟩
      · rw [show (nI 1 : Int32) = nI 2 - nI 1 by decide, zz_ix_iff (by decide)] at h21; exact absurd h21 hz
      · show Ev _ _ _ _ _ 24 [some (.ref 359), some (.int (nI w)), some (.int (nI v)), some (.int z), none, none, none] [.int (nI 0)] (zz_SH, I, J) _
        refine Ev.if_ne (off := 7) (tgt := 31) (by decide +kernel) (by decide) (fun h24 => absurd h24 (by decide)) (fun h24 => ?_)
        refine Ev.ldc2 (idx := 182) (v := (-1000000000000000002)) (by decide +kernel) (by decide +kernel) ?_
        exact Ev.lret rfl (by decide +kernel) (⟨rfl, rfl⟩)
    · exact absurd ⟨v, hv, rfl⟩ h8
  · exact absurd ⟨w, hw, rfl⟩ h1

set_option maxRecDepth 100000 in
set_option maxHeartbeats 4000000 in
theorem l_X7_goes_0 {sc : Nat × (Nat → Int32)} {d : Nat} (I : Nat → Nat → Int32) (J : Nat → Nat → Int64) (A : zA) (hV : MV (zVm I) A) (hW : WF A) (w v : Nat) (hw : w < 16) (hv : v < 16) (I1 : Nat → Nat → Int32) (hs1 : zS6 I I1) (hu : I1 359 22 = nI (2 * pbo A w v (aN A))) (hl : I1 359 23 = nI (pei A w v (aN A))) (hne : ¬ pei A w v (aN A) = 0) : ∀ (μ : Nat) (a : Nat) (b : Nat), b < μ → (a ≤ 100) → (b ≤ 100) → (Nat.gcd a b = Nat.gcd (2 * pbo A w v (aN A)) (pei A w v (aN A))) →  Ev sc (d + 2) 0 0 mX7_goes 59 [some (.ref 359), some (.int (nI w)), some (.int (nI v)), some (.int (nI 0)), some (.int (nI a)), some (.int (nI b)), none] [] (zz_SH, I1, J) (fun r σ => r = some (.long (Int32.toInt64 (nI (gsu A w v)))) ∧ ∃ I' : Nat → Nat → Int32, zSc I I' ∧ σ = (zz_SH, I', J)) := by
  intro μ
  induction μ with
  | zero => intro a b hμ; exact absurd hμ (Nat.not_lt_zero _)
  | succ μ ih =>
    intro a b hμ ha hb hg
    have w1 := hW.1.1
    have w2 := hW.1.2.1
    have c8 := pbo_le A w v (aN A)
    have c9 := pei_le A w v (aN A)
    refine Ev.run [(.iload 5, 2)] (pc' := 61) (L' := [some (.ref 359), some (.int (nI w)), some (.int (nI v)), some (.int (nI 0)), some (.int (nI a)), some (.int (nI b)), none]) (S' := [.int (nI b)]) rfl (by decide +kernel) rfl ?_
    refine Ev.if_eq (off := 21) (tgt := 82) (by decide +kernel) (by decide) (fun h61 => ?_) (fun h61 => ?_)
    · have h61 : b = 0 := zz_bE_t (by omega) (by omega) h61
      have hga : a = Nat.gcd (2 * pbo A w v (aN A)) (pei A w v (aN A)) := by rw [← hg, h61, Nat.gcd_zero_right]
      have hpos : 0 < a := by rw [hga]; exact Nat.gcd_pos_of_pos_right _ (by omega)
      refine Ev.run [(.iload_n 3, 1)] (pc' := 83) (L' := [some (.ref 359), some (.int (nI w)), some (.int (nI v)), some (.int (nI 0)), some (.int (nI a)), some (.int (nI b)), none]) (S' := [.int (nI 0)]) rfl (by decide +kernel) rfl ?_
      refine Ev.if_ne (off := 14) (tgt := 97) (by decide +kernel) (by decide) (fun h83 => absurd h83 (by decide)) (fun h83 => ?_)
      refine Ev.run [(.aload_n 0, 1), (.getfield 174, 3)] (pc' := 90) (L' := [some (.ref 359), some (.int (nI w)), some (.int (nI v)), some (.int (nI 0)), some (.int (nI a)), some (.int (nI b)), none]) (S' := [.int (I1 359 22)]) rfl (by decide +kernel) rfl ?_
      rw [hu]
      refine Ev.run [(.iload 4, 2)] (pc' := 92) (L' := [some (.ref 359), some (.int (nI w)), some (.int (nI v)), some (.int (nI 0)), some (.int (nI a)), some (.int (nI b)), none]) (S' := [.int (nI a), .int (nI (2 * pbo A w v (aN A)))]) rfl (by decide +kernel) rfl ?_
      refine Ev.idiv (by decide +kernel) (nI_ne0 hpos (by omega)) ?_
      rw [show nI (2 * pbo A w v (aN A)) / nI a = nI (2 * pbo A w v (aN A) / a) from pk_div (by omega) hpos (by omega)]
      refine Ev.run [(.i2l, 1)] (pc' := 94) (L' := [some (.ref 359), some (.int (nI w)), some (.int (nI v)), some (.int (nI 0)), some (.int (nI a)), some (.int (nI b)), none]) (S' := [.long (Int32.toInt64 (nI (2 * pbo A w v (aN A) / a)))]) rfl (by decide +kernel) rfl ?_
      refine Ev.goto (off := 11) (tgt := 105) (by decide +kernel) (by decide) ?_
      exact Ev.lret rfl (by decide +kernel) (⟨by rw [gsu, if_neg hne, hga], I1, hs1.sc, rfl⟩)
    · have h61 : ¬ b = 0 := zz_bE_f (by omega) (by omega) h61
      refine Ev.run [(.iload 4, 2), (.iload 5, 2)] (pc' := 68) (L' := [some (.ref 359), some (.int (nI w)), some (.int (nI v)), some (.int (nI 0)), some (.int (nI a)), some (.int (nI b)), none]) (S' := [.int (nI b), .int (nI a)]) rfl (by decide +kernel) rfl ?_
      refine Ev.irem (by decide +kernel) (nI_ne0 (by omega) (by omega)) ?_
      rw [show nI a - nI a / nI b * nI b = nI (a % b) from pk_rem (by omega) (by omega) (by omega)]
      refine Ev.run [(.istore 6, 2), (.iload 5, 2), (.istore 4, 2), (.iload 6, 2), (.istore 5, 2)] (pc' := 79) (L' := [some (.ref 359), some (.int (nI w)), some (.int (nI v)), some (.int (nI 0)), some (.int (nI b)), some (.int (nI (a % b))), some (.int (nI (a % b)))]) (S' := []) rfl (by decide +kernel) rfl ?_
      refine Ev.goto (off := (-20)) (tgt := 59) (by decide +kernel) (by decide) ?_
      refine Ev.weakL (L' := [some (.ref 359), some (.int (nI w)), some (.int (nI v)), some (.int (nI 0)), some (.int (nI b)), some (.int (nI (a % b))), none]) ⟨rfl, rfl, rfl, rfl, rfl, rfl, trivial⟩ ?_
      exact ih b (a % b) (by have := Nat.mod_lt a (show 0 < b by omega); omega) (by omega) (by have := Nat.mod_lt a (show 0 < b by omega); omega) (by rw [zz_gcd]; exact hg)

set_option maxRecDepth 100000 in
set_option maxHeartbeats 4000000 in
theorem c_X7_goes_0 {sc : Nat × (Nat → Int32)} {d : Nat} (I : Nat → Nat → Int32) (J : Nat → Nat → Int64) (A : zA) (hV : MV (zVm I) A) (hW : WF A) (w v : Nat) (hw : w < 16) (hv : v < 16) : EvM sc (d + 2) 0 0 mX7_goes [.ref 359, .int (nI w), .int (nI v), .int (nI 0)] (zz_SH, I, J) (fun r σ => r = some (.long (Int32.toInt64 (nI (gsu A w v)))) ∧ ∃ I' : Nat → Nat → Int32, zSc I I' ∧ σ = (zz_SH, I', J)) := by
  have w1 := hW.1.1
  have w2 := hW.1.2.1
  have c8 := pbo_le A w v (aN A)
  have c9 := pei_le A w v (aN A)
  refine EvM.of (by decide) rfl (Nat.le_of_ble_eq_true rfl) ?_
  show Ev _ _ _ _ _ 0 [some (.ref 359), some (.int (nI w)), some (.int (nI v)), some (.int (nI 0)), none, none, none] [] (zz_SH, I, J) _
  refine Ev.run [(.iload_n 1, 1)] (pc' := 1) (L' := [some (.ref 359), some (.int (nI w)), some (.int (nI v)), some (.int (nI 0)), none, none, none]) (S' := [.int (nI w)]) rfl (by decide +kernel) rfl ?_
  refine Ev.callS0 mX7_isWord [.int (nI w)] [] _ rfl lk_RX7_162 (by decide +kernel) rfl (Nat.le_of_ble_eq_true rfl) (c_X7_isWord I J (nI w)) ?_
  rintro _ _ ⟨rfl, ⟨rfl, h1⟩ | ⟨rfl, h1⟩⟩
  · show Ev _ _ _ _ _ 4 [some (.ref 359), some (.int (nI w)), some (.int (nI v)), some (.int (nI 0)), none, none, none] [.int (nI 1)] (zz_SH, I, J) _
    refine Ev.if_eq (off := 10) (tgt := 14) (by decide +kernel) (by decide) (fun h4 => absurd h4 (by decide)) (fun h4 => ?_)
    refine Ev.run [(.iload_n 2, 1)] (pc' := 8) (L' := [some (.ref 359), some (.int (nI w)), some (.int (nI v)), some (.int (nI 0)), none, none, none]) (S' := [.int (nI v)]) rfl (by decide +kernel) rfl ?_
    refine Ev.callS0 mX7_isWord [.int (nI v)] [] _ rfl lk_RX7_162 (by decide +kernel) rfl (Nat.le_of_ble_eq_true rfl) (c_X7_isWord I J (nI v)) ?_
    rintro _ _ ⟨rfl, ⟨rfl, h8⟩ | ⟨rfl, h8⟩⟩
    · show Ev _ _ _ _ _ 11 [some (.ref 359), some (.int (nI w)), some (.int (nI v)), some (.int (nI 0)), none, none, none] [.int (nI 1)] (zz_SH, I, J) _
      refine Ev.if_ne (off := 7) (tgt := 18) (by decide +kernel) (by decide) (fun h11 => ?_) (fun h11 => absurd h11 (by decide))
      refine Ev.run [(.iload_n 3, 1), (.iconst 0, 1), (.iconst 1, 1)] (pc' := 21) (L' := [some (.ref 359), some (.int (nI w)), some (.int (nI v)), some (.int (nI 0)), none, none, none]) (S' := [.int (nI 1), .int (nI 0), .int (nI 0)]) rfl (by decide +kernel) rfl ?_
      refine Ev.callS0 mX7_in [.int (nI 0), .int (nI 0), .int (nI 1)] [] _ rfl lk_RX7_79 (by decide +kernel) rfl (Nat.le_of_ble_eq_true rfl) (c_X7_in I J (nI 0) (nI 0) (nI 1)) ?_
      rintro _ _ ⟨rfl, ⟨rfl, h21⟩ | ⟨rfl, h21⟩⟩
      · show Ev _ _ _ _ _ 24 [some (.ref 359), some (.int (nI w)), some (.int (nI v)), some (.int (nI 0)), none, none, none] [.int (nI 1)] (zz_SH, I, J) _
        refine Ev.if_ne (off := 7) (tgt := 31) (by decide +kernel) (by decide) (fun h24 => ?_) (fun h24 => absurd h24 (by decide))
        refine Ev.run [(.aload_n 0, 1), (.iload_n 1, 1), (.iload_n 2, 1)] (pc' := 34) (L' := [some (.ref 359), some (.int (nI w)), some (.int (nI v)), some (.int (nI 0)), none, none, none]) (S' := [.int (nI v), .int (nI w), .ref 359]) rfl (by decide +kernel) rfl ?_
        refine Ev.callV0 mX7_layGoes [.int (nI w), .int (nI v)] [] _ rfl lk_RX7_184 (by decide +kernel) (rfl) rfl rfl rfl (Nat.le_of_ble_eq_true rfl) (c_X7_layGoes I J A hV hW w v hw hv) ?_
        rintro _ _ ⟨rfl, I1, hs1, hu, hl, rfl⟩
        show Ev _ _ _ _ _ 37 [some (.ref 359), some (.int (nI w)), some (.int (nI v)), some (.int (nI 0)), none, none, none] [] (zz_SH, I1, J) _
        refine Ev.run [(.aload_n 0, 1), (.getfield 177, 3)] (pc' := 41) (L' := [some (.ref 359), some (.int (nI w)), some (.int (nI v)), some (.int (nI 0)), none, none, none]) (S' := [.int (I1 359 23)]) rfl (by decide +kernel) rfl ?_
        rw [hl]
        refine Ev.if_ne (off := 6) (tgt := 47) (by decide +kernel) (by decide) (fun h41 => ?_) (fun h41 => ?_)
        · have h41 : ¬ (pei A w v (aN A)) = 0 := zz_bE_f (by omega) (by omega) h41
          refine Ev.run [(.aload_n 0, 1), (.getfield 174, 3)] (pc' := 51) (L' := [some (.ref 359), some (.int (nI w)), some (.int (nI v)), some (.int (nI 0)), none, none, none]) (S' := [.int (I1 359 22)]) rfl (by decide +kernel) rfl ?_
          rw [hu]
          refine Ev.run [(.istore 4, 2), (.aload_n 0, 1), (.getfield 177, 3)] (pc' := 57) (L' := [some (.ref 359), some (.int (nI w)), some (.int (nI v)), some (.int (nI 0)), some (.int (nI (2 * pbo A w v (aN A)))), none, none]) (S' := [.int (I1 359 23)]) rfl (by decide +kernel) rfl ?_
          rw [hl]
          refine Ev.run [(.istore 5, 2)] (pc' := 59) (L' := [some (.ref 359), some (.int (nI w)), some (.int (nI v)), some (.int (nI 0)), some (.int (nI (2 * pbo A w v (aN A)))), some (.int (nI (pei A w v (aN A)))), none]) (S' := []) rfl (by decide +kernel) rfl ?_
          exact l_X7_goes_0 I J A hV hW w v hw hv I1 hs1 hu hl h41 (pei A w v (aN A) + 1) _ _ (by omega) (by omega) (by omega) rfl
        · have h41 : (pei A w v (aN A)) = 0 := zz_bE_t (by omega) (by omega) h41
          refine Ev.run [(.iload_n 3, 1), (.i2l, 1)] (pc' := 46) (L' := [some (.ref 359), some (.int (nI w)), some (.int (nI v)), some (.int (nI 0)), none, none, none]) (S' := [.long (Int32.toInt64 (nI 0))]) rfl (by decide +kernel) rfl ?_
          exact Ev.lret rfl (by decide +kernel) (⟨by rw [gsu, if_pos h41], I1, hs1.sc, rfl⟩)
      · exact absurd (by decide) h21
    · exact absurd ⟨v, hv, rfl⟩ h8
  · exact absurd ⟨w, hw, rfl⟩ h1

set_option maxRecDepth 100000 in
set_option maxHeartbeats 4000000 in
theorem l_X7_goes_1 {sc : Nat × (Nat → Int32)} {d : Nat} (I : Nat → Nat → Int32) (J : Nat → Nat → Int64) (A : zA) (hV : MV (zVm I) A) (hW : WF A) (w v : Nat) (hw : w < 16) (hv : v < 16) (I1 : Nat → Nat → Int32) (hs1 : zS6 I I1) (hu : I1 359 22 = nI (2 * pbo A w v (aN A))) (hl : I1 359 23 = nI (pei A w v (aN A))) (hne : ¬ pei A w v (aN A) = 0) : ∀ (μ : Nat) (a : Nat) (b : Nat), b < μ → (a ≤ 100) → (b ≤ 100) → (Nat.gcd a b = Nat.gcd (2 * pbo A w v (aN A)) (pei A w v (aN A))) →  Ev sc (d + 2) 0 0 mX7_goes 59 [some (.ref 359), some (.int (nI w)), some (.int (nI v)), some (.int (nI 1)), some (.int (nI a)), some (.int (nI b)), none] [] (zz_SH, I1, J) (fun r σ => r = some (.long (Int32.toInt64 (nI (gsl A w v)))) ∧ ∃ I' : Nat → Nat → Int32, zSc I I' ∧ σ = (zz_SH, I', J)) := by
  intro μ
  induction μ with
  | zero => intro a b hμ; exact absurd hμ (Nat.not_lt_zero _)
  | succ μ ih =>
    intro a b hμ ha hb hg
    have w1 := hW.1.1
    have w2 := hW.1.2.1
    have c8 := pbo_le A w v (aN A)
    have c9 := pei_le A w v (aN A)
    refine Ev.run [(.iload 5, 2)] (pc' := 61) (L' := [some (.ref 359), some (.int (nI w)), some (.int (nI v)), some (.int (nI 1)), some (.int (nI a)), some (.int (nI b)), none]) (S' := [.int (nI b)]) rfl (by decide +kernel) rfl ?_
    refine Ev.if_eq (off := 21) (tgt := 82) (by decide +kernel) (by decide) (fun h61 => ?_) (fun h61 => ?_)
    · have h61 : b = 0 := zz_bE_t (by omega) (by omega) h61
      have hga : a = Nat.gcd (2 * pbo A w v (aN A)) (pei A w v (aN A)) := by rw [← hg, h61, Nat.gcd_zero_right]
      have hpos : 0 < a := by rw [hga]; exact Nat.gcd_pos_of_pos_right _ (by omega)
      refine Ev.run [(.iload_n 3, 1)] (pc' := 83) (L' := [some (.ref 359), some (.int (nI w)), some (.int (nI v)), some (.int (nI 1)), some (.int (nI a)), some (.int (nI b)), none]) (S' := [.int (nI 1)]) rfl (by decide +kernel) rfl ?_
      refine Ev.if_ne (off := 14) (tgt := 97) (by decide +kernel) (by decide) (fun h83 => ?_) (fun h83 => absurd h83 (by decide))
      refine Ev.run [(.aload_n 0, 1), (.getfield 177, 3)] (pc' := 101) (L' := [some (.ref 359), some (.int (nI w)), some (.int (nI v)), some (.int (nI 1)), some (.int (nI a)), some (.int (nI b)), none]) (S' := [.int (I1 359 23)]) rfl (by decide +kernel) rfl ?_
      rw [hl]
      refine Ev.run [(.iload 4, 2)] (pc' := 103) (L' := [some (.ref 359), some (.int (nI w)), some (.int (nI v)), some (.int (nI 1)), some (.int (nI a)), some (.int (nI b)), none]) (S' := [.int (nI a), .int (nI (pei A w v (aN A)))]) rfl (by decide +kernel) rfl ?_
      refine Ev.idiv (by decide +kernel) (nI_ne0 hpos (by omega)) ?_
      rw [show nI (pei A w v (aN A)) / nI a = nI (pei A w v (aN A) / a) from pk_div (by omega) hpos (by omega)]
      refine Ev.run [(.i2l, 1)] (pc' := 105) (L' := [some (.ref 359), some (.int (nI w)), some (.int (nI v)), some (.int (nI 1)), some (.int (nI a)), some (.int (nI b)), none]) (S' := [.long (Int32.toInt64 (nI (pei A w v (aN A) / a)))]) rfl (by decide +kernel) rfl ?_
      exact Ev.lret rfl (by decide +kernel) (⟨by rw [gsl, if_neg hne, hga], I1, hs1.sc, rfl⟩)
    · have h61 : ¬ b = 0 := zz_bE_f (by omega) (by omega) h61
      refine Ev.run [(.iload 4, 2), (.iload 5, 2)] (pc' := 68) (L' := [some (.ref 359), some (.int (nI w)), some (.int (nI v)), some (.int (nI 1)), some (.int (nI a)), some (.int (nI b)), none]) (S' := [.int (nI b), .int (nI a)]) rfl (by decide +kernel) rfl ?_
      refine Ev.irem (by decide +kernel) (nI_ne0 (by omega) (by omega)) ?_
      rw [show nI a - nI a / nI b * nI b = nI (a % b) from pk_rem (by omega) (by omega) (by omega)]
      refine Ev.run [(.istore 6, 2), (.iload 5, 2), (.istore 4, 2), (.iload 6, 2), (.istore 5, 2)] (pc' := 79) (L' := [some (.ref 359), some (.int (nI w)), some (.int (nI v)), some (.int (nI 1)), some (.int (nI b)), some (.int (nI (a % b))), some (.int (nI (a % b)))]) (S' := []) rfl (by decide +kernel) rfl ?_
      refine Ev.goto (off := (-20)) (tgt := 59) (by decide +kernel) (by decide) ?_
      refine Ev.weakL (L' := [some (.ref 359), some (.int (nI w)), some (.int (nI v)), some (.int (nI 1)), some (.int (nI b)), some (.int (nI (a % b))), none]) ⟨rfl, rfl, rfl, rfl, rfl, rfl, trivial⟩ ?_
      exact ih b (a % b) (by have := Nat.mod_lt a (show 0 < b by omega); omega) (by omega) (by have := Nat.mod_lt a (show 0 < b by omega); omega) (by rw [zz_gcd]; exact hg)

set_option maxRecDepth 100000 in
set_option maxHeartbeats 4000000 in
theorem c_X7_goes_1 {sc : Nat × (Nat → Int32)} {d : Nat} (I : Nat → Nat → Int32) (J : Nat → Nat → Int64) (A : zA) (hV : MV (zVm I) A) (hW : WF A) (w v : Nat) (hw : w < 16) (hv : v < 16) : EvM sc (d + 2) 0 0 mX7_goes [.ref 359, .int (nI w), .int (nI v), .int (nI 1)] (zz_SH, I, J) (fun r σ => r = some (.long (Int32.toInt64 (nI (gsl A w v)))) ∧ ∃ I' : Nat → Nat → Int32, zSc I I' ∧ σ = (zz_SH, I', J)) := by
  have w1 := hW.1.1
  have w2 := hW.1.2.1
  have c8 := pbo_le A w v (aN A)
  have c9 := pei_le A w v (aN A)
  refine EvM.of (by decide) rfl (Nat.le_of_ble_eq_true rfl) ?_
  show Ev _ _ _ _ _ 0 [some (.ref 359), some (.int (nI w)), some (.int (nI v)), some (.int (nI 1)), none, none, none] [] (zz_SH, I, J) _
  refine Ev.run [(.iload_n 1, 1)] (pc' := 1) (L' := [some (.ref 359), some (.int (nI w)), some (.int (nI v)), some (.int (nI 1)), none, none, none]) (S' := [.int (nI w)]) rfl (by decide +kernel) rfl ?_
  refine Ev.callS0 mX7_isWord [.int (nI w)] [] _ rfl lk_RX7_162 (by decide +kernel) rfl (Nat.le_of_ble_eq_true rfl) (c_X7_isWord I J (nI w)) ?_
  rintro _ _ ⟨rfl, ⟨rfl, h1⟩ | ⟨rfl, h1⟩⟩
  · show Ev _ _ _ _ _ 4 [some (.ref 359), some (.int (nI w)), some (.int (nI v)), some (.int (nI 1)), none, none, none] [.int (nI 1)] (zz_SH, I, J) _
    refine Ev.if_eq (off := 10) (tgt := 14) (by decide +kernel) (by decide) (fun h4 => absurd h4 (by decide)) (fun h4 => ?_)
    refine Ev.run [(.iload_n 2, 1)] (pc' := 8) (L' := [some (.ref 359), some (.int (nI w)), some (.int (nI v)), some (.int (nI 1)), none, none, none]) (S' := [.int (nI v)]) rfl (by decide +kernel) rfl ?_
    refine Ev.callS0 mX7_isWord [.int (nI v)] [] _ rfl lk_RX7_162 (by decide +kernel) rfl (Nat.le_of_ble_eq_true rfl) (c_X7_isWord I J (nI v)) ?_
    rintro _ _ ⟨rfl, ⟨rfl, h8⟩ | ⟨rfl, h8⟩⟩
    · show Ev _ _ _ _ _ 11 [some (.ref 359), some (.int (nI w)), some (.int (nI v)), some (.int (nI 1)), none, none, none] [.int (nI 1)] (zz_SH, I, J) _
      refine Ev.if_ne (off := 7) (tgt := 18) (by decide +kernel) (by decide) (fun h11 => ?_) (fun h11 => absurd h11 (by decide))
      refine Ev.run [(.iload_n 3, 1), (.iconst 0, 1), (.iconst 1, 1)] (pc' := 21) (L' := [some (.ref 359), some (.int (nI w)), some (.int (nI v)), some (.int (nI 1)), none, none, none]) (S' := [.int (nI 1), .int (nI 0), .int (nI 1)]) rfl (by decide +kernel) rfl ?_
      refine Ev.callS0 mX7_in [.int (nI 1), .int (nI 0), .int (nI 1)] [] _ rfl lk_RX7_79 (by decide +kernel) rfl (Nat.le_of_ble_eq_true rfl) (c_X7_in I J (nI 1) (nI 0) (nI 1)) ?_
      rintro _ _ ⟨rfl, ⟨rfl, h21⟩ | ⟨rfl, h21⟩⟩
      · show Ev _ _ _ _ _ 24 [some (.ref 359), some (.int (nI w)), some (.int (nI v)), some (.int (nI 1)), none, none, none] [.int (nI 1)] (zz_SH, I, J) _
        refine Ev.if_ne (off := 7) (tgt := 31) (by decide +kernel) (by decide) (fun h24 => ?_) (fun h24 => absurd h24 (by decide))
        refine Ev.run [(.aload_n 0, 1), (.iload_n 1, 1), (.iload_n 2, 1)] (pc' := 34) (L' := [some (.ref 359), some (.int (nI w)), some (.int (nI v)), some (.int (nI 1)), none, none, none]) (S' := [.int (nI v), .int (nI w), .ref 359]) rfl (by decide +kernel) rfl ?_
        refine Ev.callV0 mX7_layGoes [.int (nI w), .int (nI v)] [] _ rfl lk_RX7_184 (by decide +kernel) (rfl) rfl rfl rfl (Nat.le_of_ble_eq_true rfl) (c_X7_layGoes I J A hV hW w v hw hv) ?_
        rintro _ _ ⟨rfl, I1, hs1, hu, hl, rfl⟩
        show Ev _ _ _ _ _ 37 [some (.ref 359), some (.int (nI w)), some (.int (nI v)), some (.int (nI 1)), none, none, none] [] (zz_SH, I1, J) _
        refine Ev.run [(.aload_n 0, 1), (.getfield 177, 3)] (pc' := 41) (L' := [some (.ref 359), some (.int (nI w)), some (.int (nI v)), some (.int (nI 1)), none, none, none]) (S' := [.int (I1 359 23)]) rfl (by decide +kernel) rfl ?_
        rw [hl]
        refine Ev.if_ne (off := 6) (tgt := 47) (by decide +kernel) (by decide) (fun h41 => ?_) (fun h41 => ?_)
        · have h41 : ¬ (pei A w v (aN A)) = 0 := zz_bE_f (by omega) (by omega) h41
          refine Ev.run [(.aload_n 0, 1), (.getfield 174, 3)] (pc' := 51) (L' := [some (.ref 359), some (.int (nI w)), some (.int (nI v)), some (.int (nI 1)), none, none, none]) (S' := [.int (I1 359 22)]) rfl (by decide +kernel) rfl ?_
          rw [hu]
          refine Ev.run [(.istore 4, 2), (.aload_n 0, 1), (.getfield 177, 3)] (pc' := 57) (L' := [some (.ref 359), some (.int (nI w)), some (.int (nI v)), some (.int (nI 1)), some (.int (nI (2 * pbo A w v (aN A)))), none, none]) (S' := [.int (I1 359 23)]) rfl (by decide +kernel) rfl ?_
          rw [hl]
          refine Ev.run [(.istore 5, 2)] (pc' := 59) (L' := [some (.ref 359), some (.int (nI w)), some (.int (nI v)), some (.int (nI 1)), some (.int (nI (2 * pbo A w v (aN A)))), some (.int (nI (pei A w v (aN A)))), none]) (S' := []) rfl (by decide +kernel) rfl ?_
          exact l_X7_goes_1 I J A hV hW w v hw hv I1 hs1 hu hl h41 (pei A w v (aN A) + 1) _ _ (by omega) (by omega) (by omega) rfl
        · have h41 : (pei A w v (aN A)) = 0 := zz_bE_t (by omega) (by omega) h41
          refine Ev.run [(.iload_n 3, 1), (.i2l, 1)] (pc' := 46) (L' := [some (.ref 359), some (.int (nI w)), some (.int (nI v)), some (.int (nI 1)), none, none, none]) (S' := [.long (Int32.toInt64 (nI 1))]) rfl (by decide +kernel) rfl ?_
          exact Ev.lret rfl (by decide +kernel) (⟨by rw [gsl, if_pos h41], I1, hs1.sc, rfl⟩)
      · exact absurd (by decide) h21
    · exact absurd ⟨v, hv, rfl⟩ h8
  · exact absurd ⟨w, hw, rfl⟩ h1

abbrev zL3 : Type := Option (Nat × Nat × Nat)
def lf (x : zL3) : Int32 := match x with
  | none => -6
  | some y => nI y.1
def lu (x : zL3) : Nat := match x with
  | none => 0
  | some y => y.2.1
def ll (x : zL3) : Nat := match x with
  | none => 1
  | some y => y.2.2
def lrn (A : zA) (w : Nat) : Nat → zL3
  | 0 => none
  | v + 1 => if 0 < pei A w v (aN A) ∧ lu (lrn A w v) * pei A w v (aN A) < pbo A w v (aN A) * ll (lrn A w v) then some (v, pbo A w v (aN A), pei A w v (aN A)) else lrn A w v
theorem lrn_b {A : zA} (hN : aN A ≤ 12) (w : Nat) : ∀ v, lu (lrn A w v) ≤ 12 ∧ 1 ≤ ll (lrn A w v) ∧ ll (lrn A w v) ≤ 24
  | 0 => ⟨Nat.zero_le _, Nat.le_refl 1, show 1 ≤ 24 by decide⟩
  | v + 1 => by
    rw [lrn]
    split
    · next h =>
      have h1 := pbo_le A w v (aN A)
      have h2 := pei_le A w v (aN A)
      refine ⟨?_, ?_, ?_⟩
      · show pbo A w v (aN A) ≤ 12; omega
      · show 1 ≤ pei A w v (aN A); omega
      · show pei A w v (aN A) ≤ 24; omega
    · exact lrn_b hN w v

set_option maxRecDepth 100000 in
set_option maxHeartbeats 4000000 in
theorem l_X7_learnt {sc : Nat × (Nat → Int32)} {d : Nat} (I : Nat → Nat → Int32) (J : Nat → Nat → Int64) (A : zA) (hV : MV (zVm I) A) (hW : WF A) (w : Nat) (hw : w < 16) : ∀ (μ : Nat) (v : Nat) (I1 : Nat → Nat → Int32), 16 - v < μ → (v ≤ 16) → (zSc I I1) →  Ev sc (d + 2) 0 0 mX7_learnt 20 [some (.ref 359), some (.int (nI w)), some (.int (lf (lrn A w v))), some (.int (nI (2 * lu (lrn A w v)))), some (.int (nI (ll (lrn A w v)))), some (.int (nI v))] [] (zz_SH, I1, J) (fun r σ => r = some (.int (lf (lrn A w 16))) ∧ ∃ I' : Nat → Nat → Int32, zSc I I' ∧ σ = (zz_SH, I', J)) := by
  intro μ
  induction μ with
  | zero => intro v I1 hμ; exact absurd hμ (Nat.not_lt_zero _)
  | succ μ ih =>
    intro v I1 hμ hv hs
    have w1 := hW.1.1
    have w2 := hW.1.2.1
    have c8 := pbo_le A w v (aN A)
    have c9 := pei_le A w v (aN A)
    have l0 := lrn_b w1 w v
    refine Ev.run [(.iload 5, 2), (.bipush 16, 2)] (pc' := 24) (L' := [some (.ref 359), some (.int (nI w)), some (.int (lf (lrn A w v))), some (.int (nI (2 * lu (lrn A w v)))), some (.int (nI (ll (lrn A w v)))), some (.int (nI v))]) (S' := [.int (nI 16), .int (nI v)]) rfl (by decide +kernel) rfl ?_
    refine Ev.icmp_ge (off := 53) (tgt := 77) (by decide +kernel) (by decide) (fun h24 => ?_) (fun h24 => ?_)
    · have h24 : v ≥ 16 := zz_bG_t (by omega) (by omega) h24
      have hv16 : v = 16 := by omega
      refine Ev.run [(.iload_n 2, 1)] (pc' := 78) (L' := [some (.ref 359), some (.int (nI w)), some (.int (lf (lrn A w v))), some (.int (nI (2 * lu (lrn A w v)))), some (.int (nI (ll (lrn A w v)))), some (.int (nI v))]) (S' := [.int (lf (lrn A w v))]) rfl (by decide +kernel) rfl ?_
      exact Ev.iret rfl (by decide +kernel) (⟨by rw [hv16], I1, hs, rfl⟩)
    · have h24 : v < 16 := zz_bG_f (by omega) (by omega) h24
      refine Ev.run [(.aload_n 0, 1), (.iload_n 1, 1), (.iload 5, 2)] (pc' := 31) (L' := [some (.ref 359), some (.int (nI w)), some (.int (lf (lrn A w v))), some (.int (nI (2 * lu (lrn A w v)))), some (.int (nI (ll (lrn A w v)))), some (.int (nI v))]) (S' := [.int (nI v), .int (nI w), .ref 359]) rfl (by decide +kernel) rfl ?_
      refine Ev.callV0 mX7_layGoes [.int (nI w), .int (nI v)] [] _ rfl lk_RX7_184 (by decide +kernel) (rfl) rfl rfl rfl (Nat.le_of_ble_eq_true rfl) (c_X7_layGoes I1 J A (hs.mv hV) hW w v hw (by omega)) ?_
      rintro _ _ ⟨rfl, I2, hs2, hu, hl, rfl⟩
      show Ev _ _ _ _ _ 34 [some (.ref 359), some (.int (nI w)), some (.int (lf (lrn A w v))), some (.int (nI (2 * lu (lrn A w v)))), some (.int (nI (ll (lrn A w v)))), some (.int (nI v))] [] (zz_SH, I2, J) _
      refine Ev.run [(.aload_n 0, 1), (.getfield 177, 3)] (pc' := 38) (L' := [some (.ref 359), some (.int (nI w)), some (.int (lf (lrn A w v))), some (.int (nI (2 * lu (lrn A w v)))), some (.int (nI (ll (lrn A w v)))), some (.int (nI v))]) (S' := [.int (I2 359 23)]) rfl (by decide +kernel) rfl ?_
      rw [hl]
      refine Ev.if_le (off := 33) (tgt := 71) (by decide +kernel) (by decide) (fun h38 => ?_) (fun h38 => ?_)
      · have h38 : (pei A w v (aN A)) ≤ 0 := zz_bG'_t (by omega) (by omega) h38
        refine Ev.run [(.iinc 5 1, 3)] (pc' := 74) (L' := [some (.ref 359), some (.int (nI w)), some (.int (lf (lrn A w v))), some (.int (nI (2 * lu (lrn A w v)))), some (.int (nI (ll (lrn A w v)))), some (.int (nI v + 1))]) (S' := []) rfl (by decide +kernel) rfl ?_
        rw [nI_1 v]
        refine Ev.goto (off := (-54)) (tgt := 20) (by decide +kernel) (by decide) ?_
        have h9 := ih (v + 1) I2 (by omega) (by omega) (hs.tr hs2.sc)
        rw [lrn, if_neg (by omega)] at h9
        exact h9
      · have h38 : (pei A w v (aN A)) > 0 := zz_bG'_f (by omega) (by omega) h38
        refine Ev.run [(.aload_n 0, 1), (.getfield 174, 3)] (pc' := 45) (L' := [some (.ref 359), some (.int (nI w)), some (.int (lf (lrn A w v))), some (.int (nI (2 * lu (lrn A w v)))), some (.int (nI (ll (lrn A w v)))), some (.int (nI v))]) (S' := [.int (I2 359 22)]) rfl (by decide +kernel) rfl ?_
        rw [hu]
        refine Ev.run [(.iload 4, 2), (.imul, 1)] (pc' := 48) (L' := [some (.ref 359), some (.int (nI w)), some (.int (lf (lrn A w v))), some (.int (nI (2 * lu (lrn A w v)))), some (.int (nI (ll (lrn A w v)))), some (.int (nI v))]) (S' := [.int (nI (2 * pbo A w v (aN A)) * nI (ll (lrn A w v)))]) rfl (by decide +kernel) rfl ?_
        rw [pk_mul (2 * pbo A w v (aN A)) (ll (lrn A w v))]
        refine Ev.run [(.iload_n 3, 1), (.aload_n 0, 1), (.getfield 177, 3)] (pc' := 53) (L' := [some (.ref 359), some (.int (nI w)), some (.int (lf (lrn A w v))), some (.int (nI (2 * lu (lrn A w v)))), some (.int (nI (ll (lrn A w v)))), some (.int (nI v))]) (S' := [.int (I2 359 23), .int (nI (2 * lu (lrn A w v))), .int (nI ((2 * pbo A w v (aN A)) * (ll (lrn A w v))))]) rfl (by decide +kernel) rfl ?_
        rw [hl]
        refine Ev.run [(.imul, 1)] (pc' := 54) (L' := [some (.ref 359), some (.int (nI w)), some (.int (lf (lrn A w v))), some (.int (nI (2 * lu (lrn A w v)))), some (.int (nI (ll (lrn A w v)))), some (.int (nI v))]) (S' := [.int (nI (2 * lu (lrn A w v)) * nI (pei A w v (aN A))), .int (nI ((2 * pbo A w v (aN A)) * (ll (lrn A w v))))]) rfl (by decide +kernel) rfl ?_
        rw [pk_mul (2 * lu (lrn A w v)) (pei A w v (aN A))]
        have m1 : (2 * pbo A w v (aN A)) * ll (lrn A w v) = 2 * (pbo A w v (aN A) * ll (lrn A w v)) := Nat.mul_assoc _ _ _
        have m2 : (2 * lu (lrn A w v)) * pei A w v (aN A) = 2 * (lu (lrn A w v) * pei A w v (aN A)) := Nat.mul_assoc _ _ _
        have m3 : pbo A w v (aN A) * ll (lrn A w v) ≤ 12 * 24 := Nat.mul_le_mul (by omega) l0.2.2
        have m4 : lu (lrn A w v) * pei A w v (aN A) ≤ 12 * 24 := Nat.mul_le_mul l0.1 (by omega)
        refine Ev.icmp_le (off := 17) (tgt := 71) (by decide +kernel) (by decide) (fun h54 => ?_) (fun h54 => ?_)
        · have h54 : ((2 * pbo A w v (aN A)) * (ll (lrn A w v))) ≤ ((2 * lu (lrn A w v)) * (pei A w v (aN A))) := zz_bG'_t (by omega) (by omega) h54
          refine Ev.run [(.iinc 5 1, 3)] (pc' := 74) (L' := [some (.ref 359), some (.int (nI w)), some (.int (lf (lrn A w v))), some (.int (nI (2 * lu (lrn A w v)))), some (.int (nI (ll (lrn A w v)))), some (.int (nI v + 1))]) (S' := []) rfl (by decide +kernel) rfl ?_
          rw [nI_1 v]
          refine Ev.goto (off := (-54)) (tgt := 20) (by decide +kernel) (by decide) ?_
          have h9 := ih (v + 1) I2 (by omega) (by omega) (hs.tr hs2.sc)
          rw [lrn, if_neg (by omega)] at h9
          exact h9
        · have h54 : ((2 * pbo A w v (aN A)) * (ll (lrn A w v))) > ((2 * lu (lrn A w v)) * (pei A w v (aN A))) := zz_bG'_f (by omega) (by omega) h54
          refine Ev.run [(.iload 5, 2), (.istore_n 2, 1), (.aload_n 0, 1), (.getfield 174, 3)] (pc' := 64) (L' := [some (.ref 359), some (.int (nI w)), some (.int (nI v)), some (.int (nI (2 * lu (lrn A w v)))), some (.int (nI (ll (lrn A w v)))), some (.int (nI v))]) (S' := [.int (I2 359 22)]) rfl (by decide +kernel) rfl ?_
          rw [hu]
          refine Ev.run [(.istore_n 3, 1), (.aload_n 0, 1), (.getfield 177, 3)] (pc' := 69) (L' := [some (.ref 359), some (.int (nI w)), some (.int (nI v)), some (.int (nI (2 * pbo A w v (aN A)))), some (.int (nI (ll (lrn A w v)))), some (.int (nI v))]) (S' := [.int (I2 359 23)]) rfl (by decide +kernel) rfl ?_
          rw [hl]
          refine Ev.run [(.istore 4, 2), (.iinc 5 1, 3)] (pc' := 74) (L' := [some (.ref 359), some (.int (nI w)), some (.int (nI v)), some (.int (nI (2 * pbo A w v (aN A)))), some (.int (nI (pei A w v (aN A)))), some (.int (nI v + 1))]) (S' := []) rfl (by decide +kernel) rfl ?_
          rw [nI_1 v]
          refine Ev.goto (off := (-54)) (tgt := 20) (by decide +kernel) (by decide) ?_
          have h9 := ih (v + 1) I2 (by omega) (by omega) (hs.tr hs2.sc)
          rw [lrn, if_pos (by omega)] at h9
          exact h9

set_option maxRecDepth 100000 in
set_option maxHeartbeats 4000000 in
theorem c_X7_learnt_in {sc : Nat × (Nat → Int32)} {d : Nat} (I : Nat → Nat → Int32) (J : Nat → Nat → Int64) (A : zA) (hV : MV (zVm I) A) (hW : WF A) (w : Nat) (hw : w < 16) : EvM sc (d + 2) 0 0 mX7_learnt [.ref 359, .int (nI w)] (zz_SH, I, J) (fun r σ => r = some (.int (lf (lrn A w 16))) ∧ ∃ I' : Nat → Nat → Int32, zSc I I' ∧ σ = (zz_SH, I', J)) := by
  have w1 := hW.1.1
  have w2 := hW.1.2.1
  refine EvM.of (by decide) rfl (Nat.le_of_ble_eq_true rfl) ?_
  show Ev _ _ _ _ _ 0 [some (.ref 359), some (.int (nI w)), none, none, none, none] [] (zz_SH, I, J) _
  refine Ev.run [(.iload_n 1, 1)] (pc' := 1) (L' := [some (.ref 359), some (.int (nI w)), none, none, none, none]) (S' := [.int (nI w)]) rfl (by decide +kernel) rfl ?_
  refine Ev.callS0 mX7_isWord [.int (nI w)] [] _ rfl lk_RX7_162 (by decide +kernel) rfl (Nat.le_of_ble_eq_true rfl) (c_X7_isWord I J (nI w)) ?_
  rintro _ _ ⟨rfl, ⟨rfl, h1⟩ | ⟨rfl, h1⟩⟩
  · show Ev _ _ _ _ _ 4 [some (.ref 359), some (.int (nI w)), none, none, none, none] [.int (nI 1)] (zz_SH, I, J) _
    refine Ev.if_ne (off := 5) (tgt := 9) (by decide +kernel) (by decide) (fun h4 => ?_) (fun h4 => absurd h4 (by decide))
    refine Ev.run [(.bipush (-6), 2), (.istore_n 2, 1), (.iconst 0, 1), (.istore_n 3, 1), (.iconst 1, 1), (.istore 4, 2), (.iconst 0, 1), (.istore 5, 2)] (pc' := 20) (L' := [some (.ref 359), some (.int (nI w)), some (.int ((-6))), some (.int (nI 0)), some (.int (nI 1)), some (.int (nI 0))]) (S' := []) rfl (by decide +kernel) rfl ?_
    exact l_X7_learnt I J A hV hW w hw 17 0 I (by omega) (by omega) (zSc.rf I)
  · exact absurd ⟨w, hw, rfl⟩ h1

set_option maxRecDepth 100000 in
set_option maxHeartbeats 4000000 in
theorem c_X7_learnt_u {sc : Nat × (Nat → Int32)} {d : Nat} (I : Nat → Nat → Int32) (J : Nat → Nat → Int64) (x : Int32) (hx : ¬ zz_ix x 16) : EvM sc (d + 2) 0 0 mX7_learnt [.ref 359, .int x] (zz_SH, I, J) (zz_is (.int (-1)) (zz_SH, I, J)) := by
  refine EvM.of (by decide) rfl (Nat.le_of_ble_eq_true rfl) ?_
  show Ev _ _ _ _ _ 0 [some (.ref 359), some (.int x), none, none, none, none] [] (zz_SH, I, J) _
  refine Ev.run [(.iload_n 1, 1)] (pc' := 1) (L' := [some (.ref 359), some (.int x), none, none, none, none]) (S' := [.int x]) rfl (by decide +kernel) rfl ?_
  refine Ev.callS0 mX7_isWord [.int x] [] _ rfl lk_RX7_162 (by decide +kernel) rfl (Nat.le_of_ble_eq_true rfl) (c_X7_isWord I J x) ?_
  rintro _ _ ⟨rfl, ⟨rfl, h1⟩ | ⟨rfl, h1⟩⟩
  · exact absurd h1 hx
  · show Ev _ _ _ _ _ 4 [some (.ref 359), some (.int x), none, none, none, none] [.int (nI 0)] (zz_SH, I, J) _
    refine Ev.if_ne (off := 5) (tgt := 9) (by decide +kernel) (by decide) (fun h4 => absurd h4 (by decide)) (fun h4 => ?_)
    refine Ev.run [(.iconst (-1), 1)] (pc' := 8) (L' := [some (.ref 359), some (.int x), none, none, none, none]) (S' := [.int ((-1))]) rfl (by decide +kernel) rfl ?_
    exact Ev.iret rfl (by decide +kernel) (⟨rfl, rfl⟩)

set_option maxRecDepth 100000 in
set_option maxHeartbeats 4000000 in
theorem l_X7_areAlike {sc : Nat × (Nat → Int32)} {d : Nat} (I : Nat → Nat → Int32) (J : Nat → Nat → Int64) (q n1 a n b m : Nat) (f g : Nat → Nat) (hq : zz_SH[q]? = some (.inr (0, n1, []))) (hn1 : n1 < 1000) (han : a + n ≤ n1) (hbm : b + m ≤ n1) (hf : ∀ j, j < n → I q (a + j) = nI (f j)) (hg : ∀ j, j < m → I q (b + j) = nI (g j)) (hfr : ∀ j, j < n → f j < 1000) (hgr : ∀ j, j < m → g j < 1000) (he : n = m) : ∀ (μ : Nat) (i : Nat), n - i < μ → (i ≤ n) → (∀ j, j < i → f j = g j) →  Ev sc (d) 0 0 mX7_areAlike 16 [some (.ref q), some (.int (nI a)), some (.int (nI n)), some (.int (nI b)), some (.int (nI m)), some (.int (nI 1)), some (.int (nI i))] [] (zz_SH, I, J) (zz_tf (n = m ∧ ∀ j, j < n → f j = g j) (zz_SH, I, J)) := by
  intro μ
  induction μ with
  | zero => intro i hμ; exact absurd hμ (Nat.not_lt_zero _)
  | succ μ ih =>
    intro i hμ hi hal
    refine Ev.run [(.iload 6, 2), (.iload_n 2, 1)] (pc' := 19) (L' := [some (.ref q), some (.int (nI a)), some (.int (nI n)), some (.int (nI b)), some (.int (nI m)), some (.int (nI 1)), some (.int (nI i))]) (S' := [.int (nI n), .int (nI i)]) rfl (by decide +kernel) rfl ?_
    refine Ev.icmp_ge (off := 36) (tgt := 55) (by decide +kernel) (by decide) (fun h19 => ?_) (fun h19 => ?_)
    · have h19 : i ≥ n := zz_bG_t (by omega) (by omega) h19
      refine Ev.run [(.iload 5, 2)] (pc' := 57) (L' := [some (.ref q), some (.int (nI a)), some (.int (nI n)), some (.int (nI b)), some (.int (nI m)), some (.int (nI 1)), some (.int (nI i))]) (S' := [.int (nI 1)]) rfl (by decide +kernel) rfl ?_
      exact Ev.zret rfl (by decide +kernel) (Or.inr rfl) (⟨rfl, Or.inl ⟨rfl, he, fun j hj => hal j (by omega)⟩⟩)
    · have h19 : i < n := zz_bG_f (by omega) (by omega) h19
      have r1 := hfr i (by omega)
      have r2 := hgr i (by omega)
      refine Ev.run [(.iload 5, 2)] (pc' := 24) (L' := [some (.ref q), some (.int (nI a)), some (.int (nI n)), some (.int (nI b)), some (.int (nI m)), some (.int (nI 1)), some (.int (nI i))]) (S' := [.int (nI 1)]) rfl (by decide +kernel) rfl ?_
      refine Ev.if_eq (off := 31) (tgt := 55) (by decide +kernel) (by decide) (fun h24 => absurd h24 (by decide)) (fun h24 => ?_)
      refine Ev.run [(.aload_n 0, 1), (.iload_n 1, 1), (.iload 6, 2), (.iadd, 1)] (pc' := 32) (L' := [some (.ref q), some (.int (nI a)), some (.int (nI n)), some (.int (nI b)), some (.int (nI m)), some (.int (nI 1)), some (.int (nI i))]) (S' := [.int (nI a + nI i), .ref q]) rfl (by decide +kernel) rfl ?_
      rw [nI_add a i]
      refine Ev.iald (a + i) (by decide +kernel) (hq) (rfl) (by omega) (by first | decide | omega) ?_
      dsimp only
      rw [show I q (a + i) = nI (f i) from hf i (by omega)]
      refine Ev.run [(.aload_n 0, 1), (.iload_n 3, 1), (.iload 6, 2), (.iadd, 1)] (pc' := 38) (L' := [some (.ref q), some (.int (nI a)), some (.int (nI n)), some (.int (nI b)), some (.int (nI m)), some (.int (nI 1)), some (.int (nI i))]) (S' := [.int (nI b + nI i), .ref q, .int (nI (f i))]) rfl (by decide +kernel) rfl ?_
      rw [nI_add b i]
      refine Ev.iald (b + i) (by decide +kernel) (hq) (rfl) (by omega) (by first | decide | omega) ?_
      dsimp only
      rw [show I q (b + i) = nI (g i) from hg i (by omega)]
      refine Ev.icmp_ne (off := 7) (tgt := 46) (by decide +kernel) (by decide) (fun h39 => ?_) (fun h39 => ?_)
      · have h39 : ¬ (f i) = (g i) := zz_bE_f (by omega) (by omega) h39
        refine Ev.run [(.iconst 0, 1), (.istore 5, 2), (.iinc 6 1, 3)] (pc' := 52) (L' := [some (.ref q), some (.int (nI a)), some (.int (nI n)), some (.int (nI b)), some (.int (nI m)), some (.int (nI 0)), some (.int (nI i + 1))]) (S' := []) rfl (by decide +kernel) rfl ?_
        rw [nI_1 i]
        refine Ev.goto (off := (-36)) (tgt := 16) (by decide +kernel) (by decide) ?_
        refine Ev.run [(.iload 6, 2), (.iload_n 2, 1)] (pc' := 19) (L' := [some (.ref q), some (.int (nI a)), some (.int (nI n)), some (.int (nI b)), some (.int (nI m)), some (.int (nI 0)), some (.int (nI (i + 1)))]) (S' := [.int (nI n), .int (nI (i + 1))]) rfl (by decide +kernel) rfl ?_
        refine Ev.icmp_ge (off := 36) (tgt := 55) (by decide +kernel) (by decide) (fun g19 => ?_) (fun g19 => ?_)
        · have g19 : (i + 1) ≥ n := zz_bG_t (by omega) (by omega) g19
          refine Ev.run [(.iload 5, 2)] (pc' := 57) (L' := [some (.ref q), some (.int (nI a)), some (.int (nI n)), some (.int (nI b)), some (.int (nI m)), some (.int (nI 0)), some (.int (nI (i + 1)))]) (S' := [.int (nI 0)]) rfl (by decide +kernel) rfl ?_
          exact Ev.zret rfl (by decide +kernel) (Or.inl rfl) (⟨rfl, Or.inr ⟨rfl, fun z => h39 (z.2 i (by omega))⟩⟩)
        · have g19 : (i + 1) < n := zz_bG_f (by omega) (by omega) g19
          refine Ev.run [(.iload 5, 2)] (pc' := 24) (L' := [some (.ref q), some (.int (nI a)), some (.int (nI n)), some (.int (nI b)), some (.int (nI m)), some (.int (nI 0)), some (.int (nI (i + 1)))]) (S' := [.int (nI 0)]) rfl (by decide +kernel) rfl ?_
          refine Ev.if_eq (off := 31) (tgt := 55) (by decide +kernel) (by decide) (fun h24 => ?_) (fun h24 => absurd h24 (by decide))
          refine Ev.run [(.iload 5, 2)] (pc' := 57) (L' := [some (.ref q), some (.int (nI a)), some (.int (nI n)), some (.int (nI b)), some (.int (nI m)), some (.int (nI 0)), some (.int (nI (i + 1)))]) (S' := [.int (nI 0)]) rfl (by decide +kernel) rfl ?_
          exact Ev.zret rfl (by decide +kernel) (Or.inl rfl) (⟨rfl, Or.inr ⟨rfl, fun z => h39 (z.2 i (by omega))⟩⟩)
      · have h39 : (f i) = (g i) := zz_bE_t (by omega) (by omega) h39
        refine Ev.run [(.iconst 1, 1)] (pc' := 43) (L' := [some (.ref q), some (.int (nI a)), some (.int (nI n)), some (.int (nI b)), some (.int (nI m)), some (.int (nI 1)), some (.int (nI i))]) (S' := [.int (nI 1)]) rfl (by decide +kernel) rfl ?_
        refine Ev.goto (off := 4) (tgt := 47) (by decide +kernel) (by decide) ?_
        refine Ev.run [(.istore 5, 2), (.iinc 6 1, 3)] (pc' := 52) (L' := [some (.ref q), some (.int (nI a)), some (.int (nI n)), some (.int (nI b)), some (.int (nI m)), some (.int (nI 1)), some (.int (nI i + 1))]) (S' := []) rfl (by decide +kernel) rfl ?_
        rw [nI_1 i]
        refine Ev.goto (off := (-36)) (tgt := 16) (by decide +kernel) (by decide) ?_
        exact ih (i + 1) (by omega) (by omega) (lt_s hal h39)

set_option maxRecDepth 100000 in
set_option maxHeartbeats 4000000 in
theorem c_X7_areAlike {sc : Nat × (Nat → Int32)} {d : Nat} (I : Nat → Nat → Int32) (J : Nat → Nat → Int64) (q n1 a n b m : Nat) (f g : Nat → Nat) (hq : zz_SH[q]? = some (.inr (0, n1, []))) (hn1 : n1 < 1000) (han : a + n ≤ n1) (hbm : b + m ≤ n1) (hf : ∀ j, j < n → I q (a + j) = nI (f j)) (hg : ∀ j, j < m → I q (b + j) = nI (g j)) (hfr : ∀ j, j < n → f j < 1000) (hgr : ∀ j, j < m → g j < 1000) : EvM sc (d) 0 0 mX7_areAlike [.ref q, .int (nI a), .int (nI n), .int (nI b), .int (nI m)] (zz_SH, I, J) (zz_tf (n = m ∧ ∀ j, j < n → f j = g j) (zz_SH, I, J)) := by
  refine EvM.of (by decide) rfl (Nat.le_of_ble_eq_true rfl) ?_
  show Ev _ _ _ _ _ 0 [some (.ref q), some (.int (nI a)), some (.int (nI n)), some (.int (nI b)), some (.int (nI m)), none, none] [] (zz_SH, I, J) _
  refine Ev.run [(.iload_n 2, 1), (.iload 4, 2)] (pc' := 3) (L' := [some (.ref q), some (.int (nI a)), some (.int (nI n)), some (.int (nI b)), some (.int (nI m)), none, none]) (S' := [.int (nI m), .int (nI n)]) rfl (by decide +kernel) rfl ?_
  refine Ev.icmp_ne (off := 7) (tgt := 10) (by decide +kernel) (by decide) (fun h3 => ?_) (fun h3 => ?_)
  · have h3 : ¬ n = m := zz_bE_f (by omega) (by omega) h3
    refine Ev.run [(.iconst 0, 1), (.istore 5, 2), (.iconst 0, 1), (.istore 6, 2), (.iload 6, 2), (.iload_n 2, 1)] (pc' := 19) (L' := [some (.ref q), some (.int (nI a)), some (.int (nI n)), some (.int (nI b)), some (.int (nI m)), some (.int (nI 0)), some (.int (nI 0))]) (S' := [.int (nI n), .int (nI 0)]) rfl (by decide +kernel) rfl ?_
    refine Ev.icmp_ge (off := 36) (tgt := 55) (by decide +kernel) (by decide) (fun g19 => ?_) (fun g19 => ?_)
    · have g19 : 0 ≥ n := zz_bG_t (by omega) (by omega) g19
      refine Ev.run [(.iload 5, 2)] (pc' := 57) (L' := [some (.ref q), some (.int (nI a)), some (.int (nI n)), some (.int (nI b)), some (.int (nI m)), some (.int (nI 0)), some (.int (nI 0))]) (S' := [.int (nI 0)]) rfl (by decide +kernel) rfl ?_
      exact Ev.zret rfl (by decide +kernel) (Or.inl rfl) (⟨rfl, Or.inr ⟨rfl, fun z => h3 z.1⟩⟩)
    · have g19 : 0 < n := zz_bG_f (by omega) (by omega) g19
      refine Ev.run [(.iload 5, 2)] (pc' := 24) (L' := [some (.ref q), some (.int (nI a)), some (.int (nI n)), some (.int (nI b)), some (.int (nI m)), some (.int (nI 0)), some (.int (nI 0))]) (S' := [.int (nI 0)]) rfl (by decide +kernel) rfl ?_
      refine Ev.if_eq (off := 31) (tgt := 55) (by decide +kernel) (by decide) (fun h24 => ?_) (fun h24 => absurd h24 (by decide))
      refine Ev.run [(.iload 5, 2)] (pc' := 57) (L' := [some (.ref q), some (.int (nI a)), some (.int (nI n)), some (.int (nI b)), some (.int (nI m)), some (.int (nI 0)), some (.int (nI 0))]) (S' := [.int (nI 0)]) rfl (by decide +kernel) rfl ?_
      exact Ev.zret rfl (by decide +kernel) (Or.inl rfl) (⟨rfl, Or.inr ⟨rfl, fun z => h3 z.1⟩⟩)
  · have h3 : n = m := zz_bE_t (by omega) (by omega) h3
    refine Ev.run [(.iconst 1, 1)] (pc' := 7) (L' := [some (.ref q), some (.int (nI a)), some (.int (nI n)), some (.int (nI b)), some (.int (nI m)), none, none]) (S' := [.int (nI 1)]) rfl (by decide +kernel) rfl ?_
    refine Ev.goto (off := 4) (tgt := 11) (by decide +kernel) (by decide) ?_
    refine Ev.run [(.istore 5, 2), (.iconst 0, 1), (.istore 6, 2)] (pc' := 16) (L' := [some (.ref q), some (.int (nI a)), some (.int (nI n)), some (.int (nI b)), some (.int (nI m)), some (.int (nI 1)), some (.int (nI 0))]) (S' := []) rfl (by decide +kernel) rfl ?_
    exact l_X7_areAlike I J q n1 a n b m f g hq hn1 han hbm hf hg hfr hgr h3 (n + 1) 0 (by omega) (by omega) (fun j hj => absurd hj (Nat.not_lt_zero j))

def al1 (A : zA) (p q : Nat) : Prop := fz A p = fz A q ∧ ∀ j, j < fz A p → ff A p j = ff A q j
def al2 (A : zA) (p q : Nat) : Prop := gz A p = gz A q ∧ ∀ j, j < gz A p → gg A p j = gg A q j
def cls (A : zA) (p q : Nat) : Prop := al1 A p q ∧ ¬ al2 A p q
def clr (A : zA) (x : Int32) : Prop := (x = -6 ∧ ∀ p q, p < q → q < aN A → ¬ cls A p q) ∨ ∃ p q, p < q ∧ q < aN A ∧ cls A p q ∧ x = nI (100 * p + q) ∧ ∀ p' q', p' < q' → q' < aN A → (p' < p ∨ (p' = p ∧ q' < q)) → ¬ cls A p' q'

set_option maxRecDepth 100000 in
set_option maxHeartbeats 4000000 in
theorem l_X7_cl1 {sc : Nat × (Nat → Int32)} {d : Nat} (I : Nat → Nat → Int32) (J : Nat → Nat → Int64) (A : zA) (hV : MV (zVm I) A) (hW : WF A) (p : Nat) (hp : p < aN A) (hpre : ∀ p1 q1, p1 < q1 → q1 < aN A → p1 < p → ¬ cls A p1 q1) (hout : (∀ q1, p < q1 → q1 < aN A → ¬ cls A p q1) → Ev sc (d + 1) 0 0 mX7_clash 97 [some (.ref 359), some (.int (nI p)), none, none] [] (zz_SH, I, J) (fun r σ => σ = (zz_SH, I, J) ∧ ∃ x : Int32, r = some (.int x) ∧ clr A x)) : ∀ (μ : Nat) (q : Nat), aN A - q < μ → (p < q) → (q ≤ aN A) → (∀ q1, p < q1 → q1 < q → ¬ cls A p q1) →  Ev sc (d + 1) 0 0 mX7_clash 14 [some (.ref 359), some (.int (nI p)), some (.int (nI q)), none] [] (zz_SH, I, J) (fun r σ => σ = (zz_SH, I, J) ∧ ∃ x : Int32, r = some (.int x) ∧ clr A x) := by
  intro μ
  induction μ with
  | zero => intro q hμ; exact absurd hμ (Nat.not_lt_zero _)
  | succ μ ih =>
    intro q hμ hq hq2 hno
    have w1 := hW.1.1
    have w2 := hW.1.2.1
    refine Ev.run [(.iload_n 2, 1), (.aload_n 0, 1), (.getfield 75, 3)] (pc' := 19) (L' := [some (.ref 359), some (.int (nI p)), some (.int (nI q)), none]) (S' := [.int (I 359 2), .int (nI q)]) rfl (by decide +kernel) rfl ?_
    rw [show I 359 2 = nI (aN A) from hV.1.1]
    refine Ev.icmp_ge (off := 78) (tgt := 97) (by decide +kernel) (by decide) (fun h19 => ?_) (fun h19 => ?_)
    · have h19 : q ≥ (aN A) := zz_bG_t (by omega) (by omega) h19
      refine Ev.weakL (L' := [some (.ref 359), some (.int (nI p)), none, none]) ⟨rfl, rfl, trivial⟩ ?_
      exact hout (fun q1 h1 h2 => hno q1 h1 (by omega))
    · have h19 : q < (aN A) := zz_bG_f (by omega) (by omega) h19
      refine Ev.run [(.aload_n 0, 1), (.getfield 22, 3), (.bipush 12, 2), (.iload_n 1, 1), (.imul, 1)] (pc' := 30) (L' := [some (.ref 359), some (.int (nI p)), some (.int (nI q)), none]) (S' := [.int (nI 12 * nI p), .ref 364]) rfl (by decide +kernel) rfl ?_
      rw [pk_mul 12 p]
      refine Ev.run [(.aload_n 0, 1), (.getfield 16, 3), (.iload_n 1, 1)] (pc' := 35) (L' := [some (.ref 359), some (.int (nI p)), some (.int (nI q)), none]) (S' := [.int (nI p), .ref 362, .int (nI (12 * p)), .ref 364]) rfl (by decide +kernel) rfl ?_
      refine Ev.iald p (by decide +kernel) (rfl) (rfl) (by omega) (by first | decide | omega) ?_
      dsimp only
      rw [show I 362 p = nI (fz A p) from (hV.2.1 p hp).2.1]
      refine Ev.run [(.bipush 12, 2), (.iload_n 2, 1), (.imul, 1)] (pc' := 40) (L' := [some (.ref 359), some (.int (nI p)), some (.int (nI q)), none]) (S' := [.int (nI 12 * nI q), .int (nI (fz A p)), .int (nI (12 * p)), .ref 364]) rfl (by decide +kernel) rfl ?_
      rw [pk_mul 12 q]
      refine Ev.run [(.aload_n 0, 1), (.getfield 16, 3), (.iload_n 2, 1)] (pc' := 45) (L' := [some (.ref 359), some (.int (nI p)), some (.int (nI q)), none]) (S' := [.int (nI q), .ref 362, .int (nI (12 * q)), .int (nI (fz A p)), .int (nI (12 * p)), .ref 364]) rfl (by decide +kernel) rfl ?_
      refine Ev.iald q (by decide +kernel) (rfl) (rfl) (by omega) (by first | decide | omega) ?_
      dsimp only
      rw [show I 362 q = nI (fz A q) from (hV.2.1 q (by omega)).2.1]
      refine Ev.callS0 mX7_areAlike [.ref 364, .int (nI (12 * p)), .int (nI (fz A p)), .int (nI (12 * q)), .int (nI (fz A q))] [] _ rfl lk_RX7_188 (by decide +kernel) rfl (Nat.le_of_ble_eq_true rfl) (c_X7_areAlike I J 364 144 (12 * p) (fz A p) (12 * q) (fz A q) (ff A p) (ff A q) rfl (by decide) (by have := (hW.2.1 p hp).1; omega) (by have := (hW.2.1 q (by omega)).1; omega) (hV.2.1 p hp).2.2.2.1 (hV.2.1 q (by omega)).2.2.2.1 (fun j hj => by have := ((hW.2.1 p hp).2.1 j hj).2; omega) (fun j hj => by have := ((hW.2.1 q (by omega)).2.1 j hj).2; omega)) ?_
      rintro _ _ ⟨rfl, ⟨rfl, h46⟩ | ⟨rfl, h46⟩⟩
      · show Ev _ _ _ _ _ 49 [some (.ref 359), some (.int (nI p)), some (.int (nI q)), none] [.int (nI 1)] (zz_SH, I, J) _
        refine Ev.run [(.istore_n 3, 1), (.iload_n 3, 1)] (pc' := 51) (L' := [some (.ref 359), some (.int (nI p)), some (.int (nI q)), some (.int (nI 1))]) (S' := [.int (nI 1)]) rfl (by decide +kernel) rfl ?_
        refine Ev.if_eq (off := 40) (tgt := 91) (by decide +kernel) (by decide) (fun h51 => absurd h51 (by decide)) (fun h51 => ?_)
        refine Ev.run [(.aload_n 0, 1), (.getfield 25, 3), (.bipush 12, 2), (.iload_n 1, 1), (.imul, 1)] (pc' := 62) (L' := [some (.ref 359), some (.int (nI p)), some (.int (nI q)), some (.int (nI 1))]) (S' := [.int (nI 12 * nI p), .ref 365]) rfl (by decide +kernel) rfl ?_
        rw [pk_mul 12 p]
        refine Ev.run [(.aload_n 0, 1), (.getfield 19, 3), (.iload_n 1, 1)] (pc' := 67) (L' := [some (.ref 359), some (.int (nI p)), some (.int (nI q)), some (.int (nI 1))]) (S' := [.int (nI p), .ref 363, .int (nI (12 * p)), .ref 365]) rfl (by decide +kernel) rfl ?_
        refine Ev.iald p (by decide +kernel) (rfl) (rfl) (by omega) (by first | decide | omega) ?_
        dsimp only
        rw [show I 363 p = nI (gz A p) from (hV.2.1 p hp).2.2.1]
        refine Ev.run [(.bipush 12, 2), (.iload_n 2, 1), (.imul, 1)] (pc' := 72) (L' := [some (.ref 359), some (.int (nI p)), some (.int (nI q)), some (.int (nI 1))]) (S' := [.int (nI 12 * nI q), .int (nI (gz A p)), .int (nI (12 * p)), .ref 365]) rfl (by decide +kernel) rfl ?_
        rw [pk_mul 12 q]
        refine Ev.run [(.aload_n 0, 1), (.getfield 19, 3), (.iload_n 2, 1)] (pc' := 77) (L' := [some (.ref 359), some (.int (nI p)), some (.int (nI q)), some (.int (nI 1))]) (S' := [.int (nI q), .ref 363, .int (nI (12 * q)), .int (nI (gz A p)), .int (nI (12 * p)), .ref 365]) rfl (by decide +kernel) rfl ?_
        refine Ev.iald q (by decide +kernel) (rfl) (rfl) (by omega) (by first | decide | omega) ?_
        dsimp only
        rw [show I 363 q = nI (gz A q) from (hV.2.1 q (by omega)).2.2.1]
        refine Ev.callS0 mX7_areAlike [.ref 365, .int (nI (12 * p)), .int (nI (gz A p)), .int (nI (12 * q)), .int (nI (gz A q))] [] _ rfl lk_RX7_188 (by decide +kernel) rfl (Nat.le_of_ble_eq_true rfl) (c_X7_areAlike I J 365 144 (12 * p) (gz A p) (12 * q) (gz A q) (gg A p) (gg A q) rfl (by decide) (by have := (hW.2.1 p hp).1; omega) (by have := (hW.2.1 q (by omega)).1; omega) (hV.2.1 p hp).2.2.2.2 (hV.2.1 q (by omega)).2.2.2.2 (fun j hj => by have := ((hW.2.1 p hp).2.2.1 j hj).2; omega) (fun j hj => by have := ((hW.2.1 q (by omega)).2.2.1 j hj).2; omega)) ?_
        rintro _ _ ⟨rfl, ⟨rfl, h78⟩ | ⟨rfl, h78⟩⟩
        · show Ev _ _ _ _ _ 81 [some (.ref 359), some (.int (nI p)), some (.int (nI q)), some (.int (nI 1))] [.int (nI 1)] (zz_SH, I, J) _
          refine Ev.if_ne (off := 10) (tgt := 91) (by decide +kernel) (by decide) (fun h81 => ?_) (fun h81 => absurd h81 (by decide))
          refine Ev.run [(.iinc 2 1, 3)] (pc' := 94) (L' := [some (.ref 359), some (.int (nI p)), some (.int (nI q + 1)), some (.int (nI 1))]) (S' := []) rfl (by decide +kernel) rfl ?_
          rw [nI_1 q]
          refine Ev.goto (off := (-80)) (tgt := 14) (by decide +kernel) (by decide) ?_
          refine Ev.weakL (L' := [some (.ref 359), some (.int (nI p)), some (.int (nI (q + 1))), none]) ⟨rfl, rfl, rfl, trivial⟩ ?_
          refine ih (q + 1) (by omega) (by omega) (by omega) (fun q1 h1 h2 => ?_)
          by_cases e : q1 = q
          · subst e; exact fun z => z.2 h78
          · exact hno q1 h1 (by omega)
        · show Ev _ _ _ _ _ 81 [some (.ref 359), some (.int (nI p)), some (.int (nI q)), some (.int (nI 1))] [.int (nI 0)] (zz_SH, I, J) _
          refine Ev.if_ne (off := 10) (tgt := 91) (by decide +kernel) (by decide) (fun h81 => absurd h81 (by decide)) (fun h81 => ?_)
          refine Ev.run [(.bipush 100, 2), (.iload_n 1, 1), (.imul, 1)] (pc' := 88) (L' := [some (.ref 359), some (.int (nI p)), some (.int (nI q)), some (.int (nI 1))]) (S' := [.int (nI 100 * nI p)]) rfl (by decide +kernel) rfl ?_
          rw [pk_mul 100 p]
          refine Ev.run [(.iload_n 2, 1), (.iadd, 1)] (pc' := 90) (L' := [some (.ref 359), some (.int (nI p)), some (.int (nI q)), some (.int (nI 1))]) (S' := [.int (nI (100 * p) + nI q)]) rfl (by decide +kernel) rfl ?_
          rw [nI_add (100 * p) q]
          exact Ev.iret rfl (by decide +kernel) (⟨rfl, _, rfl, Or.inr ⟨p, q, hq, by omega, ⟨h46, h78⟩, rfl, fun p1 q1 z1 z2 z3 => z3.elim (fun z => hpre p1 q1 z1 z2 z) (fun z => by rw [z.1]; exact hno q1 (by omega) z.2)⟩⟩)
      · show Ev _ _ _ _ _ 49 [some (.ref 359), some (.int (nI p)), some (.int (nI q)), none] [.int (nI 0)] (zz_SH, I, J) _
        refine Ev.run [(.istore_n 3, 1), (.iload_n 3, 1)] (pc' := 51) (L' := [some (.ref 359), some (.int (nI p)), some (.int (nI q)), some (.int (nI 0))]) (S' := [.int (nI 0)]) rfl (by decide +kernel) rfl ?_
        refine Ev.if_eq (off := 40) (tgt := 91) (by decide +kernel) (by decide) (fun h51 => ?_) (fun h51 => absurd h51 (by decide))
        refine Ev.run [(.iinc 2 1, 3)] (pc' := 94) (L' := [some (.ref 359), some (.int (nI p)), some (.int (nI q + 1)), some (.int (nI 0))]) (S' := []) rfl (by decide +kernel) rfl ?_
        rw [nI_1 q]
        refine Ev.goto (off := (-80)) (tgt := 14) (by decide +kernel) (by decide) ?_
        refine Ev.weakL (L' := [some (.ref 359), some (.int (nI p)), some (.int (nI (q + 1))), none]) ⟨rfl, rfl, rfl, trivial⟩ ?_
        refine ih (q + 1) (by omega) (by omega) (by omega) (fun q1 h1 h2 => ?_)
        by_cases e : q1 = q
        · subst e; exact fun z => h46 z.1
        · exact hno q1 h1 (by omega)

set_option maxRecDepth 100000 in
set_option maxHeartbeats 4000000 in
theorem l_X7_cl2 {sc : Nat × (Nat → Int32)} {d : Nat} (I : Nat → Nat → Int32) (J : Nat → Nat → Int64) (A : zA) (hV : MV (zVm I) A) (hW : WF A) : ∀ (μ : Nat) (p : Nat), aN A - p < μ → (p ≤ aN A) → (∀ p1 q1, p1 < q1 → q1 < aN A → p1 < p → ¬ cls A p1 q1) →  Ev sc (d + 1) 0 0 mX7_clash 2 [some (.ref 359), some (.int (nI p)), none, none] [] (zz_SH, I, J) (fun r σ => σ = (zz_SH, I, J) ∧ ∃ x : Int32, r = some (.int x) ∧ clr A x) := by
  intro μ
  induction μ with
  | zero => intro p hμ; exact absurd hμ (Nat.not_lt_zero _)
  | succ μ ih =>
    intro p hμ hp hpre
    have w1 := hW.1.1
    have w2 := hW.1.2.1
    refine Ev.run [(.iload_n 1, 1), (.aload_n 0, 1), (.getfield 75, 3)] (pc' := 7) (L' := [some (.ref 359), some (.int (nI p)), none, none]) (S' := [.int (I 359 2), .int (nI p)]) rfl (by decide +kernel) rfl ?_
    rw [show I 359 2 = nI (aN A) from hV.1.1]
    refine Ev.icmp_ge (off := 96) (tgt := 103) (by decide +kernel) (by decide) (fun h7 => ?_) (fun h7 => ?_)
    · have h7 : p ≥ (aN A) := zz_bG_t (by omega) (by omega) h7
      refine Ev.run [(.bipush (-6), 2)] (pc' := 105) (L' := [some (.ref 359), some (.int (nI p)), none, none]) (S' := [.int ((-6))]) rfl (by decide +kernel) rfl ?_
      exact Ev.iret rfl (by decide +kernel) (⟨rfl, _, rfl, Or.inl ⟨rfl, fun p1 q1 z1 z2 => hpre p1 q1 z1 z2 (by omega)⟩⟩)
    · have h7 : p < (aN A) := zz_bG_f (by omega) (by omega) h7
      refine Ev.run [(.iload_n 1, 1), (.iconst 1, 1), (.iadd, 1)] (pc' := 13) (L' := [some (.ref 359), some (.int (nI p)), none, none]) (S' := [.int (nI p + nI 1)]) rfl (by decide +kernel) rfl ?_
      rw [nI_add p 1]
      refine Ev.run [(.istore_n 2, 1)] (pc' := 14) (L' := [some (.ref 359), some (.int (nI p)), some (.int (nI (p + 1))), none]) (S' := []) rfl (by decide +kernel) rfl ?_
      refine l_X7_cl1 I J A hV hW p (by omega) hpre ?_ (aN A + 1) (p + 1) (by omega) (by omega) (by omega) (fun q1 h1 h2 => absurd h1 (by omega))
      intro hno
      show Ev _ _ _ _ _ 97 [some (.ref 359), some (.int (nI p)), none, none] [] (zz_SH, I, J) _
      refine Ev.run [(.iinc 1 1, 3)] (pc' := 100) (L' := [some (.ref 359), some (.int (nI p + 1)), none, none]) (S' := []) rfl (by decide +kernel) rfl ?_
      rw [nI_1 p]
      refine Ev.goto (off := (-98)) (tgt := 2) (by decide +kernel) (by decide) ?_
      refine ih (p + 1) (by omega) (by omega) (fun p1 q1 z1 z2 z3 => ?_)
      by_cases e : p1 = p
      · subst e; exact hno q1 z1 z2
      · exact hpre p1 q1 z1 z2 (by omega)

set_option maxRecDepth 100000 in
set_option maxHeartbeats 4000000 in
theorem c_X7_clash {sc : Nat × (Nat → Int32)} {d : Nat} (I : Nat → Nat → Int32) (J : Nat → Nat → Int64) (A : zA) (hV : MV (zVm I) A) (hW : WF A) : EvM sc (d + 1) 0 0 mX7_clash [.ref 359] (zz_SH, I, J) (fun r σ => σ = (zz_SH, I, J) ∧ ∃ x : Int32, r = some (.int x) ∧ clr A x) := by
  have w1 := hW.1.1
  have w2 := hW.1.2.1
  refine EvM.of (by decide) rfl (Nat.le_of_ble_eq_true rfl) ?_
  show Ev _ _ _ _ _ 0 [some (.ref 359), none, none, none] [] (zz_SH, I, J) _
  refine Ev.run [(.iconst 0, 1), (.istore_n 1, 1)] (pc' := 2) (L' := [some (.ref 359), some (.int (nI 0)), none, none]) (S' := []) rfl (by decide +kernel) rfl ?_
  exact l_X7_cl2 I J A hV hW (aN A + 1) 0 (by omega) (by omega) (fun p1 q1 z1 z2 z3 => absurd z3 (Nat.not_lt_zero p1))
