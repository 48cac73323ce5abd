/-! ===== the model: keep ===== -/

set_option maxRecDepth 100000 in
set_option maxHeartbeats 4000000 in
theorem c_X7_keep_u {sc : Nat × (Nat → Int32)} {d : Nat} (I : Nat → Nat → Int32) (J : Nat → Nat → Int64) (A : zA) (hV : MV (zVm I) A) (hW : WF A) (x : Int32) (hx1 : ¬ x = (-1)) (hx : ¬ zz_ix x (aN A)) : EvM sc (d + 3) 0 0 mX7_keep [.ref 359, .int x] (zz_SH, I, J) (zz_is (.int (-1)) (zz_SH, I, J)) := by
  have w1 := hW.1.1
  have w2 := hW.1.2.1
  refine EvM.of (by decide) rfl (Nat.le_of_ble_eq_true rfl) ?_
  show Ev _ _ _ _ _ 0 [some (.ref 359), some (.int x), none] [] (zz_SH, I, J) _
  refine Ev.run [(.iload_n 1, 1), (.iconst (-1), 1)] (pc' := 2) (L' := [some (.ref 359), some (.int x), none]) (S' := [.int ((-1)), .int x]) rfl (by decide +kernel) rfl ?_
  refine Ev.icmp_eq (off := 13) (tgt := 15) (by decide +kernel) (by decide) (fun h2 => absurd h2 hx1) (fun h2 => ?_)
  refine Ev.run [(.aload_n 0, 1), (.iload_n 1, 1)] (pc' := 7) (L' := [some (.ref 359), some (.int x), none]) (S' := [.int x, .ref 359]) rfl (by decide +kernel) rfl ?_
  refine Ev.callV0 mX7_isPair [.int x] [] _ rfl lk_RX7_100 (by decide +kernel) (rfl) rfl rfl rfl (Nat.le_of_ble_eq_true rfl) (c_X7_isPair I J (aN A) x hV.1.1 (by omega)) ?_
  rintro _ _ ⟨rfl, ⟨rfl, h7⟩ | ⟨rfl, h7⟩⟩
  · exact absurd h7 hx
  · show Ev _ _ _ _ _ 10 [some (.ref 359), some (.int x), none] [.int (nI 0)] (zz_SH, I, J) _
    refine Ev.if_ne (off := 5) (tgt := 15) (by decide +kernel) (by decide) (fun h10 => absurd h10 (by decide)) (fun h10 => ?_)
    refine Ev.run [(.iconst (-1), 1)] (pc' := 14) (L' := [some (.ref 359), some (.int x), none]) (S' := [.int ((-1))]) rfl (by decide +kernel) rfl ?_
    exact Ev.iret rfl (by decide +kernel) (⟨rfl, rfl⟩)

set_option maxRecDepth 100000 in
set_option maxHeartbeats 4000000 in
theorem c_X7_keep_fn {sc : Nat × (Nat → Int32)} {d : Nat} (I : Nat → Nat → Int32) (J : Nat → Nat → Int64) (A : zA) (hV : MV (zVm I) A) (hW : WF A) (hN : aN A = 12) : EvM sc (d + 3) 0 0 mX7_keep [.ref 359, .int ((-1))] (zz_SH, I, J) (zz_is (.int (-4)) (zz_SH, I, J)) := by
  have w1 := hW.1.1
  have w2 := hW.1.2.1
  refine EvM.of (by decide) rfl (Nat.le_of_ble_eq_true rfl) ?_
  show Ev _ _ _ _ _ 0 [some (.ref 359), some (.int ((-1))), none] [] (zz_SH, I, J) _
  refine Ev.run [(.iload_n 1, 1), (.iconst (-1), 1)] (pc' := 2) (L' := [some (.ref 359), some (.int ((-1))), none]) (S' := [.int ((-1)), .int ((-1))]) rfl (by decide +kernel) rfl ?_
  refine Ev.icmp_eq (off := 13) (tgt := 15) (by decide +kernel) (by decide) (fun h2 => ?_) (fun h2 => absurd h2 (fun q => q rfl))
  refine Ev.run [(.aload_n 0, 1), (.getfield 75, 3)] (pc' := 19) (L' := [some (.ref 359), some (.int ((-1))), none]) (S' := [.int (I 359 2)]) rfl (by decide +kernel) rfl ?_
  rw [show I 359 2 = nI (aN A) from hV.1.1]
  refine Ev.run [(.bipush 12, 2)] (pc' := 21) (L' := [some (.ref 359), some (.int ((-1))), none]) (S' := [.int (nI 12), .int (nI (aN A))]) rfl (by decide +kernel) rfl ?_
  refine Ev.icmp_ne (off := 6) (tgt := 27) (by decide +kernel) (by decide) (fun h21 => ?_) (fun h21 => ?_)
  · have h21 : ¬ (aN A) = 12 := zz_bE_f (by omega) (by omega) h21
    exfalso; omega
  · have h21 : (aN A) = 12 := zz_bE_t (by omega) (by omega) h21
    refine Ev.run [(.bipush (-4), 2)] (pc' := 26) (L' := [some (.ref 359), some (.int ((-1))), none]) (S' := [.int ((-4))]) rfl (by decide +kernel) rfl ?_
    exact Ev.iret rfl (by decide +kernel) (⟨rfl, rfl⟩)

set_option maxRecDepth 100000 in
set_option maxHeartbeats 4000000 in
theorem c_X7_keep_nn {sc : Nat × (Nat → Int32)} {d : Nat} (I : Nat → Nat → Int32) (J : Nat → Nat → Int64) (A : zA) (hV : MV (zVm I) A) (hW : WF A) (np : Nat) (pd : Nat → Nat) (hn : I 359 0 = nI np) (hpd : ∀ j, j < np → I 360 j = nI (pd j)) (hnp : np ≤ 30) (hpr : ∀ j, j < np → 33 ≤ pd j ∧ pd j ≤ 126) (hN : aN A < 12) (x : Nat) (hf : fP np pd = some x) (hx : x < 1000) : EvM sc (d + 3) 0 0 mX7_keep [.ref 359, .int ((-1))] (zz_SH, I, J) (fun r σ => r = some (.int (-5)) ∧ ∃ I' : Nat → Nat → Int32, zSc I I' ∧ σ = (zz_SH, I', J)) := by
  have w1 := hW.1.1
  have w2 := hW.1.2.1
  refine EvM.of (by decide) rfl (Nat.le_of_ble_eq_true rfl) ?_
  show Ev _ _ _ _ _ 0 [some (.ref 359), some (.int ((-1))), none] [] (zz_SH, I, J) _
  refine Ev.run [(.iload_n 1, 1), (.iconst (-1), 1)] (pc' := 2) (L' := [some (.ref 359), some (.int ((-1))), none]) (S' := [.int ((-1)), .int ((-1))]) rfl (by decide +kernel) rfl ?_
  refine Ev.icmp_eq (off := 13) (tgt := 15) (by decide +kernel) (by decide) (fun h2 => ?_) (fun h2 => absurd h2 (fun q => q rfl))
  refine Ev.run [(.aload_n 0, 1), (.getfield 75, 3)] (pc' := 19) (L' := [some (.ref 359), some (.int ((-1))), none]) (S' := [.int (I 359 2)]) rfl (by decide +kernel) rfl ?_
  rw [show I 359 2 = nI (aN A) from hV.1.1]
  refine Ev.run [(.bipush 12, 2)] (pc' := 21) (L' := [some (.ref 359), some (.int ((-1))), none]) (S' := [.int (nI 12), .int (nI (aN A))]) rfl (by decide +kernel) rfl ?_
  refine Ev.icmp_ne (off := 6) (tgt := 27) (by decide +kernel) (by decide) (fun h21 => ?_) (fun h21 => ?_)
  · have h21 : ¬ (aN A) = 12 := zz_bE_f (by omega) (by omega) h21
    refine Ev.run [(.aload_n 0, 1), (.iconst 1, 1)] (pc' := 29) (L' := [some (.ref 359), some (.int ((-1))), none]) (S' := [.int (nI 1), .ref 359]) rfl (by decide +kernel) rfl ?_
    refine Ev.callV0 mX7_faultOf [.int (nI 1)] [] _ rfl lk_RX7_96 (by decide +kernel) (rfl) rfl rfl rfl (Nat.le_of_ble_eq_true rfl) (c_X7_faultOf_1 I J np pd hn hpd hnp hpr) ?_
    rintro _ _ ⟨rfl, I1, hs1, hh1, rfl⟩
    rw [hf]
    show Ev _ _ _ _ _ 32 [some (.ref 359), some (.int ((-1))), none] [.int (nI x)] (zz_SH, I1, J) _
    refine Ev.if_lt (off := 6) (tgt := 38) (by decide +kernel) (by decide) (fun h32 => ?_) (fun h32 => ?_)
    · have h32 : x < 0 := zz_bL_t (by omega) (by omega) h32
      exfalso; omega
    · have h32 : x ≥ 0 := zz_bL_f (by omega) (by omega) h32
      refine Ev.run [(.bipush (-5), 2)] (pc' := 37) (L' := [some (.ref 359), some (.int ((-1))), none]) (S' := [.int ((-5))]) rfl (by decide +kernel) rfl ?_
      exact Ev.iret rfl (by decide +kernel) (⟨rfl, I1, hs1.sc, rfl⟩)
  · have h21 : (aN A) = 12 := zz_bE_t (by omega) (by omega) h21
    exfalso; omega

set_option maxRecDepth 100000 in
set_option maxHeartbeats 4000000 in
theorem l_X7_k2n {sc : Nat × (Nat → Int32)} {d : Nat} (I : Nat → Nat → Int32) (J : Nat → Nat → Int64) (A : zA) (hV : MV (zVm I) A) (hW : WF A) (np : Nat) (pd : Nat → Nat) (hn : I 359 0 = nI np) (hpd : ∀ j, j < np → I 360 j = nI (pd j)) (hnp : np ≤ 30) (hpr : ∀ j, j < np → 33 ≤ pd j ∧ pd j ≤ 126) (hN : aN A < 12) (e : Nat) (h_e1 : 1 ≤ e) (h_e2 : e ≤ 12) (h_e3 : e + 1 < np) (h_e4 : np ≤ e + 1 + 12) (I1 : Nat → Nat → Int32) (hs1 : zS7 I I1) (hh : I1 359 15 = nI (e + 1)) : ∀ (μ : Nat) (i : Nat) (I2 : Nat → Nat → Int32), np - (e + 1 + i) < μ → (e + 1 + i ≤ np) → ((∀ c, (c < 361 ∨ 366 ≤ c) → I2 c = I1 c) ∧ I2 361 = I1 361 ∧ I2 362 = upd (I1 362) (aN A) (nI e) ∧ I2 363 = upd (I1 363) (aN A) (nI (np - (e + 1)))) → (∀ j, j < e → I2 364 (12 * aN A + j) = nI (pd j)) → (∀ x, x < 12 * aN A → I2 364 x = I 364 x) → (∀ j, j < i → I2 365 (12 * aN A + j) = nI (pd (e + 1 + j))) → (∀ x, x < 12 * aN A → I2 365 x = I 365 x) →  Ev sc (d + 3) 0 0 mX7_keep 114 [some (.ref 359), some (.int ((-1))), some (.int (nI (e + 1 + i)))] [] (zz_SH, I2, J) (fun r σ => r = some (.int (nI (aN A))) ∧ ∃ I' : Nat → Nat → Int32, KP I I' ∧ MV (zVm I') (addP A np pd e none) ∧ σ = (zz_SH, I', J)) := by
  intro μ
  induction μ with
  | zero => intro i I2 hμ; exact absurd hμ (Nat.not_lt_zero _)
  | succ μ ih =>
    intro i I2 hμ hi hz h4 h4' ht hu
    have w1 := hW.1.1
    have w2 := hW.1.2.1
    refine Ev.run [(.iload_n 2, 1), (.aload_n 0, 1), (.getfield 86, 3)] (pc' := 119) (L' := [some (.ref 359), some (.int ((-1))), some (.int (nI (e + 1 + i)))]) (S' := [.int (I2 359 0), .int (nI (e + 1 + i))]) rfl (by decide +kernel) rfl ?_
    rw [show I2 359 0 = nI (np) from by rw [hz.1 359 (by decide), hs1.2 0 (by decide)]; exact hn]
    refine Ev.icmp_ge (off := 34) (tgt := 153) (by decide +kernel) (by decide) (fun h119 => ?_) (fun h119 => ?_)
    · have h119 : (e + 1 + i) ≥ np := zz_bG_t (by omega) (by omega) h119
      refine Ev.run [(.aload_n 0, 1), (.getfield 13, 3), (.aload_n 0, 1), (.getfield 75, 3)] (pc' := 161) (L' := [some (.ref 359), some (.int ((-1))), some (.int (nI (e + 1 + i)))]) (S' := [.int (I2 359 2), .ref 361]) rfl (by decide +kernel) rfl ?_
      rw [show I2 359 2 = nI (aN A) from by rw [hz.1 359 (by decide), hs1.2 2 (by decide)]; exact hV.1.1]
      refine Ev.run [(.iload_n 1, 1)] (pc' := 162) (L' := [some (.ref 359), some (.int ((-1))), some (.int (nI (e + 1 + i)))]) (S' := [.int ((-1)), .int (nI (aN A)), .ref 361]) rfl (by decide +kernel) rfl ?_
      refine Ev.if_ge (off := 8) (tgt := 170) (by decide +kernel) (by decide) (fun h162 => absurd h162 (by decide)) (fun h162 => ?_)
      refine Ev.run [(.bipush (-6), 2)] (pc' := 167) (L' := [some (.ref 359), some (.int ((-1))), some (.int (nI (e + 1 + i)))]) (S' := [.int ((-6)), .int (nI (aN A)), .ref 361]) rfl (by decide +kernel) rfl ?_
      refine Ev.goto (off := 4) (tgt := 171) (by decide +kernel) (by decide) ?_
      refine Ev.iast (aN A) (by decide +kernel) (rfl) (rfl) (by omega) (by first | decide | omega) ?_
      dsimp only
      refine Ev.run [(.aload_n 0, 1), (.iconst 0, 1)] (pc' := 174) (L' := [some (.ref 359), some (.int ((-1))), some (.int (nI (e + 1 + i)))]) (S' := [.int (nI 0), .ref 359]) rfl (by decide +kernel) rfl ?_
      refine Ev.putf (idx := 86) rfl rfl rfl (by decide +kernel) (rfl) rfl ?_
      dsimp only
      refine Ev.run [(.aload_n 0, 1), (.dup, 1), (.getfield 75, 3)] (pc' := 182) (L' := [some (.ref 359), some (.int ((-1))), some (.int (nI (e + 1 + i)))]) (S' := [.int ((zz_up (zz_up I2 361 (aN A) ((-6))) 359 0 (nI 0)) 359 2), .ref 359]) rfl (by decide +kernel) rfl ?_
      rw [show (zz_up (zz_up I2 361 (aN A) ((-6))) 359 0 (nI 0)) 359 2 = nI (aN A) from by rw [zz_up_eq, zz_upn (by decide), zz_up_ne (by decide), hz.1 359 (by decide), hs1.2 2 (by decide)]; exact hV.1.1]
      refine Ev.run [(.iconst 1, 1), (.iadd, 1)] (pc' := 184) (L' := [some (.ref 359), some (.int ((-1))), some (.int (nI (e + 1 + i)))]) (S' := [.int (nI (aN A) + nI 1), .ref 359]) rfl (by decide +kernel) rfl ?_
      rw [nI_add (aN A) 1]
      refine Ev.putf (idx := 75) rfl rfl rfl (by decide +kernel) (rfl) rfl ?_
      dsimp only
      refine Ev.run [(.aload_n 0, 1), (.getfield 75, 3)] (pc' := 191) (L' := [some (.ref 359), some (.int ((-1))), some (.int (nI (e + 1 + i)))]) (S' := [.int ((zz_up (zz_up (zz_up I2 361 (aN A) ((-6))) 359 0 (nI 0)) 359 2 (nI ((aN A) + 1))) 359 2)]) rfl (by decide +kernel) rfl ?_
      rw [show (zz_up (zz_up (zz_up I2 361 (aN A) ((-6))) 359 0 (nI 0)) 359 2 (nI ((aN A) + 1))) 359 2 = nI (aN A + 1) from by rw [zz_up_eq, zz_ups]]
      refine Ev.run [(.iconst 1, 1), (.isub, 1)] (pc' := 193) (L' := [some (.ref 359), some (.int ((-1))), some (.int (nI (e + 1 + i)))]) (S' := [.int (nI (aN A + 1) - nI 1)]) rfl (by decide +kernel) rfl ?_
      rw [show nI (aN A + 1) - nI 1 = nI (aN A) from zz_sub (by omega)]
      exact Ev.iret rfl (by decide +kernel) (⟨rfl, _, ⟨fun c hc => by rw [zz_up_ne (by omega), zz_up_ne (by omega), zz_up_ne (by omega), hz.1 c (by omega), hs1.1 c (by omega)], by rw [zz_up_ne (by decide), zz_up_ne (by decide), zz_up_ne (by decide), hz.1 379 (by decide), hs1.1 379 (by decide)], by rw [zz_up_ne (by decide), zz_up_ne (by decide), zz_up_ne (by decide), hz.1 380 (by decide), hs1.1 380 (by decide)], by rw [zz_up_eq, zz_upn (by decide), zz_up_eq, zz_ups]⟩, MV_addP hV hW (by rw [zz_up_eq, zz_upn (by decide), zz_up_eq, zz_upn (by decide), zz_up_ne (by decide), hz.1 359 (by decide), hs1.2 8 (by decide)]) (by rw [zz_up_eq, zz_ups]) (fun c h1 h2 => by rw [zz_up_ne (by omega), zz_up_ne (by omega), zz_up_ne (by omega), hz.1 c (by omega), hs1.1 c (by omega)]) ⟨by rw [zz_up_ne (by decide), zz_up_ne (by decide), zz_up_eq, zz_ups]; rfl, by rw [zz_up_ne (by decide), zz_up_ne (by decide), zz_up_ne (by decide), hz.2.2.1, zz_ups], by rw [zz_up_ne (by decide), zz_up_ne (by decide), zz_up_ne (by decide), hz.2.2.2, zz_ups]⟩ (fun p hp => ⟨by rw [zz_up_ne (by decide), zz_up_ne (by decide), zz_up_eq, zz_upn (by omega), hz.2.1, hs1.1 361 (by decide)], by rw [zz_up_ne (by decide), zz_up_ne (by decide), zz_up_ne (by decide), hz.2.2.1, zz_upn (by omega), hs1.1 362 (by decide)], by rw [zz_up_ne (by decide), zz_up_ne (by decide), zz_up_ne (by decide), hz.2.2.2, zz_upn (by omega), hs1.1 363 (by decide)]⟩) (fun j hj => by rw [zz_up_ne (by decide), zz_up_ne (by decide), zz_up_ne (by decide)]; exact h4 j hj) (fun j hj => by rw [zz_up_ne (by decide), zz_up_ne (by decide), zz_up_ne (by decide)]; exact ht j (by omega)) (fun x hx => ⟨by rw [zz_up_ne (by decide), zz_up_ne (by decide), zz_up_ne (by decide)]; exact h4' x hx, by rw [zz_up_ne (by decide), zz_up_ne (by decide), zz_up_ne (by decide)]; exact hu x hx⟩), rfl⟩)
    · have h119 : (e + 1 + i) < np := zz_bG_f (by omega) (by omega) h119
      refine Ev.run [(.aload_n 0, 1), (.getfield 25, 3), (.bipush 12, 2), (.aload_n 0, 1), (.getfield 75, 3)] (pc' := 132) (L' := [some (.ref 359), some (.int ((-1))), some (.int (nI (e + 1 + i)))]) (S' := [.int (I2 359 2), .int (nI 12), .ref 365]) rfl (by decide +kernel) rfl ?_
      rw [show I2 359 2 = nI (aN A) from by rw [hz.1 359 (by decide), hs1.2 2 (by decide)]; exact hV.1.1]
      refine Ev.run [(.imul, 1)] (pc' := 133) (L' := [some (.ref 359), some (.int ((-1))), some (.int (nI (e + 1 + i)))]) (S' := [.int (nI 12 * nI (aN A)), .ref 365]) rfl (by decide +kernel) rfl ?_
      rw [pk_mul 12 (aN A)]
      refine Ev.run [(.iload_n 2, 1), (.iadd, 1)] (pc' := 135) (L' := [some (.ref 359), some (.int ((-1))), some (.int (nI (e + 1 + i)))]) (S' := [.int (nI (12 * (aN A)) + nI (e + 1 + i)), .ref 365]) rfl (by decide +kernel) rfl ?_
      rw [nI_add (12 * (aN A)) (e + 1 + i)]
      refine Ev.run [(.aload_n 0, 1), (.getfield 89, 3)] (pc' := 139) (L' := [some (.ref 359), some (.int ((-1))), some (.int (nI (e + 1 + i)))]) (S' := [.int (I2 359 15), .int (nI ((12 * (aN A)) + (e + 1 + i))), .ref 365]) rfl (by decide +kernel) rfl ?_
      rw [show I2 359 15 = nI (e + 1) from by rw [hz.1 359 (by decide)]; exact hh]
      refine Ev.run [(.isub, 1)] (pc' := 140) (L' := [some (.ref 359), some (.int ((-1))), some (.int (nI (e + 1 + i)))]) (S' := [.int (nI ((12 * (aN A)) + (e + 1 + i)) - nI (e + 1)), .ref 365]) rfl (by decide +kernel) rfl ?_
      rw [show nI ((12 * (aN A)) + (e + 1 + i)) - nI (e + 1) = nI (12 * aN A + i) from zz_sub (by omega)]
      refine Ev.run [(.aload_n 0, 1), (.getfield 7, 3), (.iload_n 2, 1)] (pc' := 145) (L' := [some (.ref 359), some (.int ((-1))), some (.int (nI (e + 1 + i)))]) (S' := [.int (nI (e + 1 + i)), .ref 360, .int (nI (12 * aN A + i)), .ref 365]) rfl (by decide +kernel) rfl ?_
      refine Ev.iald (e + 1 + i) (by decide +kernel) (rfl) (rfl) (by omega) (by first | decide | omega) ?_
      dsimp only
      rw [show I2 360 (e + 1 + i) = nI (pd (e + 1 + i)) from by rw [hz.1 360 (by decide), hs1.1 360 (by decide)]; exact hpd _ (by omega)]
      refine Ev.iast (12 * aN A + i) (by decide +kernel) (rfl) (rfl) (by omega) (by first | decide | omega) ?_
      dsimp only
      refine Ev.run [(.iinc 2 1, 3)] (pc' := 150) (L' := [some (.ref 359), some (.int ((-1))), some (.int (nI (e + 1 + i) + 1))]) (S' := []) rfl (by decide +kernel) rfl ?_
      rw [nI_1 (e + 1 + i)]
      refine Ev.goto (off := (-36)) (tgt := 114) (by decide +kernel) (by decide) ?_
      rw [show e + 1 + i + 1 = e + 1 + (i + 1) by omega]
      refine ih (i + 1) _ (by omega) (by omega) ⟨fun c h1 => by rw [zz_up_ne (by omega)]; exact hz.1 c h1, by rw [zz_up_ne (by decide)]; exact hz.2.1, by rw [zz_up_ne (by decide)]; exact hz.2.2.1, by rw [zz_up_ne (by decide)]; exact hz.2.2.2⟩ (fun j hj => by rw [zz_up_ne (by decide)]; exact h4 j hj) (fun x hx => by rw [zz_up_ne (by decide)]; exact h4' x hx) (fun j hj => ?_) (fun x hx => ?_)
      · by_cases q : j = i
        · subst q; rw [zz_up_eq, zz_ups]
        · rw [zz_up_eq, zz_upn (by omega)]; exact ht j (by omega)
      · rw [zz_up_eq, zz_upn (by omega)]; exact hu x hx

set_option maxRecDepth 100000 in
set_option maxHeartbeats 4000000 in
theorem l_X7_k1n {sc : Nat × (Nat → Int32)} {d : Nat} (I : Nat → Nat → Int32) (J : Nat → Nat → Int64) (A : zA) (hV : MV (zVm I) A) (hW : WF A) (np : Nat) (pd : Nat → Nat) (hn : I 359 0 = nI np) (hpd : ∀ j, j < np → I 360 j = nI (pd j)) (hnp : np ≤ 30) (hpr : ∀ j, j < np → 33 ≤ pd j ∧ pd j ≤ 126) (hN : aN A < 12) (e : Nat) (h_e1 : 1 ≤ e) (h_e2 : e ≤ 12) (h_e3 : e + 1 < np) (h_e4 : np ≤ e + 1 + 12) (I1 : Nat → Nat → Int32) (hs1 : zS7 I I1) (hh : I1 359 15 = nI (e + 1)) : ∀ (μ : Nat) (k : Nat) (I2 : Nat → Nat → Int32), e - k < μ → (k ≤ e) → ((∀ c, (c < 361 ∨ 366 ≤ c) → I2 c = I1 c) ∧ I2 361 = I1 361 ∧ I2 362 = upd (I1 362) (aN A) (nI e) ∧ I2 363 = upd (I1 363) (aN A) (nI (np - (e + 1)))) → (∀ j, j < k → I2 364 (12 * aN A + j) = nI (pd j)) → (∀ x, x < 12 * aN A → I2 364 x = I 364 x) → (∀ x, x < 12 * aN A → I2 365 x = I 365 x) →  Ev sc (d + 3) 0 0 mX7_keep 73 [some (.ref 359), some (.int ((-1))), some (.int (nI k))] [] (zz_SH, I2, J) (fun r σ => r = some (.int (nI (aN A))) ∧ ∃ I' : Nat → Nat → Int32, KP I I' ∧ MV (zVm I') (addP A np pd e none) ∧ σ = (zz_SH, I', J)) := by
  intro μ
  induction μ with
  | zero => intro k I2 hμ; exact absurd hμ (Nat.not_lt_zero _)
  | succ μ ih =>
    intro k I2 hμ hk hz ht hu h5
    have w1 := hW.1.1
    have w2 := hW.1.2.1
    refine Ev.run [(.iload_n 2, 1), (.aload_n 0, 1), (.getfield 89, 3)] (pc' := 78) (L' := [some (.ref 359), some (.int ((-1))), some (.int (nI k))]) (S' := [.int (I2 359 15), .int (nI k)]) rfl (by decide +kernel) rfl ?_
    rw [show I2 359 15 = nI (e + 1) from by rw [hz.1 359 (by decide)]; exact hh]
    refine Ev.run [(.iconst 1, 1), (.isub, 1)] (pc' := 80) (L' := [some (.ref 359), some (.int ((-1))), some (.int (nI k))]) (S' := [.int (nI (e + 1) - nI 1), .int (nI k)]) rfl (by decide +kernel) rfl ?_
    rw [show nI (e + 1) - nI 1 = nI e from zz_sub (by omega)]
    refine Ev.icmp_ge (off := 29) (tgt := 109) (by decide +kernel) (by decide) (fun h80 => ?_) (fun h80 => ?_)
    · have h80 : k ≥ e := zz_bG_t (by omega) (by omega) h80
      refine Ev.run [(.aload_n 0, 1), (.getfield 89, 3)] (pc' := 113) (L' := [some (.ref 359), some (.int ((-1))), some (.int (nI k))]) (S' := [.int (I2 359 15)]) rfl (by decide +kernel) rfl ?_
      rw [show I2 359 15 = nI (e + 1) from by rw [hz.1 359 (by decide)]; exact hh]
      refine Ev.run [(.istore_n 2, 1)] (pc' := 114) (L' := [some (.ref 359), some (.int ((-1))), some (.int (nI (e + 1)))]) (S' := []) rfl (by decide +kernel) rfl ?_
      exact l_X7_k2n I J A hV hW np pd hn hpd hnp hpr hN e h_e1 h_e2 h_e3 h_e4 I1 hs1 hh (np + 1) 0 I2 (by omega) (by omega) hz (fun j hj => ht j (by omega)) hu (fun j hj => absurd hj (Nat.not_lt_zero j)) h5
    · have h80 : k < e := zz_bG_f (by omega) (by omega) h80
      refine Ev.run [(.aload_n 0, 1), (.getfield 22, 3), (.bipush 12, 2), (.aload_n 0, 1), (.getfield 75, 3)] (pc' := 93) (L' := [some (.ref 359), some (.int ((-1))), some (.int (nI k))]) (S' := [.int (I2 359 2), .int (nI 12), .ref 364]) rfl (by decide +kernel) rfl ?_
      rw [show I2 359 2 = nI (aN A) from by rw [hz.1 359 (by decide), hs1.2 2 (by decide)]; exact hV.1.1]
      refine Ev.run [(.imul, 1)] (pc' := 94) (L' := [some (.ref 359), some (.int ((-1))), some (.int (nI k))]) (S' := [.int (nI 12 * nI (aN A)), .ref 364]) rfl (by decide +kernel) rfl ?_
      rw [pk_mul 12 (aN A)]
      refine Ev.run [(.iload_n 2, 1), (.iadd, 1)] (pc' := 96) (L' := [some (.ref 359), some (.int ((-1))), some (.int (nI k))]) (S' := [.int (nI (12 * (aN A)) + nI k), .ref 364]) rfl (by decide +kernel) rfl ?_
      rw [nI_add (12 * (aN A)) k]
      refine Ev.run [(.aload_n 0, 1), (.getfield 7, 3), (.iload_n 2, 1)] (pc' := 101) (L' := [some (.ref 359), some (.int ((-1))), some (.int (nI k))]) (S' := [.int (nI k), .ref 360, .int (nI ((12 * (aN A)) + k)), .ref 364]) rfl (by decide +kernel) rfl ?_
      refine Ev.iald k (by decide +kernel) (rfl) (rfl) (by omega) (by first | decide | omega) ?_
      dsimp only
      rw [show I2 360 k = nI (pd k) from by rw [hz.1 360 (by decide), hs1.1 360 (by decide)]; exact hpd _ (by omega)]
      refine Ev.iast ((12 * (aN A)) + k) (by decide +kernel) (rfl) (rfl) (by omega) (by first | decide | omega) ?_
      dsimp only
      refine Ev.run [(.iinc 2 1, 3)] (pc' := 106) (L' := [some (.ref 359), some (.int ((-1))), some (.int (nI k + 1))]) (S' := []) rfl (by decide +kernel) rfl ?_
      rw [nI_1 k]
      refine Ev.goto (off := (-33)) (tgt := 73) (by decide +kernel) (by decide) ?_
      refine ih (k + 1) _ (by omega) (by omega) ⟨fun c h1 => by rw [zz_up_ne (by omega)]; exact hz.1 c h1, by rw [zz_up_ne (by decide)]; exact hz.2.1, by rw [zz_up_ne (by decide)]; exact hz.2.2.1, by rw [zz_up_ne (by decide)]; exact hz.2.2.2⟩ (fun j hj => ?_) (fun x hx => ?_) (fun x hx => by rw [zz_up_ne (by decide)]; exact h5 x hx)
      · by_cases q : j = k
        · subst q; rw [zz_up_eq, zz_ups]
        · rw [zz_up_eq, zz_upn (by omega)]; exact ht j (by omega)
      · rw [zz_up_eq, zz_upn (by omega)]; exact hu x hx

set_option maxRecDepth 100000 in
set_option maxHeartbeats 4000000 in
theorem c_X7_keep_kn {sc : Nat × (Nat → Int32)} {d : Nat} (I : Nat → Nat → Int32) (J : Nat → Nat → Int64) (A : zA) (hV : MV (zVm I) A) (hW : WF A) (np : Nat) (pd : Nat → Nat) (hn : I 359 0 = nI np) (hpd : ∀ j, j < np → I 360 j = nI (pd j)) (hnp : np ≤ 30) (hpr : ∀ j, j < np → 33 ≤ pd j ∧ pd j ≤ 126) (hN : aN A < 12) (hf : fP np pd = none) (e : Nat) (he : E1 np pd = e) : EvM sc (d + 3) 0 0 mX7_keep [.ref 359, .int ((-1))] (zz_SH, I, J) (fun r σ => r = some (.int (nI (aN A))) ∧ ∃ I' : Nat → Nat → Int32, KP I I' ∧ MV (zVm I') (addP A np pd e none) ∧ σ = (zz_SH, I', J)) := by
  have w1 := hW.1.1
  have w2 := hW.1.2.1
  have g1 := fP_none hf
  refine EvM.of (by decide) rfl (Nat.le_of_ble_eq_true rfl) ?_
  show Ev _ _ _ _ _ 0 [some (.ref 359), some (.int ((-1))), none] [] (zz_SH, I, J) _
  refine Ev.run [(.iload_n 1, 1), (.iconst (-1), 1)] (pc' := 2) (L' := [some (.ref 359), some (.int ((-1))), none]) (S' := [.int ((-1)), .int ((-1))]) rfl (by decide +kernel) rfl ?_
  refine Ev.icmp_eq (off := 13) (tgt := 15) (by decide +kernel) (by decide) (fun h2 => ?_) (fun h2 => absurd h2 (fun q => q rfl))
  refine Ev.run [(.aload_n 0, 1), (.getfield 75, 3)] (pc' := 19) (L' := [some (.ref 359), some (.int ((-1))), none]) (S' := [.int (I 359 2)]) rfl (by decide +kernel) rfl ?_
  rw [show I 359 2 = nI (aN A) from hV.1.1]
  refine Ev.run [(.bipush 12, 2)] (pc' := 21) (L' := [some (.ref 359), some (.int ((-1))), none]) (S' := [.int (nI 12), .int (nI (aN A))]) rfl (by decide +kernel) rfl ?_
  refine Ev.icmp_ne (off := 6) (tgt := 27) (by decide +kernel) (by decide) (fun h21 => ?_) (fun h21 => ?_)
  · have h21 : ¬ (aN A) = 12 := zz_bE_f (by omega) (by omega) h21
    refine Ev.run [(.aload_n 0, 1), (.iconst 1, 1)] (pc' := 29) (L' := [some (.ref 359), some (.int ((-1))), none]) (S' := [.int (nI 1), .ref 359]) rfl (by decide +kernel) rfl ?_
    refine Ev.callV0 mX7_faultOf [.int (nI 1)] [] _ rfl lk_RX7_96 (by decide +kernel) (rfl) rfl rfl rfl (Nat.le_of_ble_eq_true rfl) (c_X7_faultOf_1 I J np pd hn hpd hnp hpr) ?_
    rintro _ _ ⟨rfl, I1, hs1, hh1, rfl⟩
    rw [hf]
    have hh := hh1 hf
    rw [he] at hh
    show Ev _ _ _ _ _ 32 [some (.ref 359), some (.int ((-1))), none] [.int ((-6))] (zz_SH, I1, J) _
    refine Ev.if_lt (off := 6) (tgt := 38) (by decide +kernel) (by decide) (fun h32 => ?_) (fun h32 => absurd h32 (by decide))
    refine Ev.run [(.aload_n 0, 1), (.getfield 16, 3), (.aload_n 0, 1), (.getfield 75, 3)] (pc' := 46) (L' := [some (.ref 359), some (.int ((-1))), none]) (S' := [.int (I1 359 2), .ref 362]) rfl (by decide +kernel) rfl ?_
    rw [show (I1) 359 2 = nI (aN A) from by rw [hs1.2 2 (by decide)]; exact hV.1.1]
    refine Ev.run [(.aload_n 0, 1), (.getfield 89, 3)] (pc' := 50) (L' := [some (.ref 359), some (.int ((-1))), none]) (S' := [.int (I1 359 15), .int (nI (aN A)), .ref 362]) rfl (by decide +kernel) rfl ?_
    rw [show (I1) 359 15 = nI (e + 1) from by exact hh]
    refine Ev.run [(.iconst 1, 1), (.isub, 1)] (pc' := 52) (L' := [some (.ref 359), some (.int ((-1))), none]) (S' := [.int (nI (e + 1) - nI 1), .int (nI (aN A)), .ref 362]) rfl (by decide +kernel) rfl ?_
    rw [show nI (e + 1) - nI 1 = nI e from zz_sub (by omega)]
    refine Ev.iast (aN A) (by decide +kernel) (rfl) (rfl) (by omega) (by first | decide | omega) ?_
    dsimp only
    refine Ev.run [(.aload_n 0, 1), (.getfield 19, 3), (.aload_n 0, 1), (.getfield 75, 3)] (pc' := 61) (L' := [some (.ref 359), some (.int ((-1))), none]) (S' := [.int ((zz_up I1 362 (aN A) (nI e)) 359 2), .ref 363]) rfl (by decide +kernel) rfl ?_
    rw [show (zz_up I1 362 (aN A) (nI e)) 359 2 = nI (aN A) from by rw [zz_up_ne (by decide)]; rw [hs1.2 2 (by decide)]; exact hV.1.1]
    refine Ev.run [(.aload_n 0, 1), (.getfield 86, 3)] (pc' := 65) (L' := [some (.ref 359), some (.int ((-1))), none]) (S' := [.int ((zz_up I1 362 (aN A) (nI e)) 359 0), .int (nI (aN A)), .ref 363]) rfl (by decide +kernel) rfl ?_
    rw [show (zz_up I1 362 (aN A) (nI e)) 359 0 = nI (np) from by rw [zz_up_ne (by decide)]; rw [hs1.2 0 (by decide)]; exact hn]
    refine Ev.run [(.aload_n 0, 1), (.getfield 89, 3)] (pc' := 69) (L' := [some (.ref 359), some (.int ((-1))), none]) (S' := [.int ((zz_up I1 362 (aN A) (nI e)) 359 15), .int (nI np), .int (nI (aN A)), .ref 363]) rfl (by decide +kernel) rfl ?_
    rw [show (zz_up I1 362 (aN A) (nI e)) 359 15 = nI (e + 1) from by rw [zz_up_ne (by decide)]; exact hh]
    refine Ev.run [(.isub, 1)] (pc' := 70) (L' := [some (.ref 359), some (.int ((-1))), none]) (S' := [.int (nI np - nI (e + 1)), .int (nI (aN A)), .ref 363]) rfl (by decide +kernel) rfl ?_
    rw [show nI np - nI (e + 1) = nI (np - (e + 1)) from zz_sub (by omega)]
    refine Ev.iast (aN A) (by decide +kernel) (rfl) (rfl) (by omega) (by first | decide | omega) ?_
    dsimp only
    refine Ev.run [(.iconst 0, 1), (.istore_n 2, 1)] (pc' := 73) (L' := [some (.ref 359), some (.int ((-1))), some (.int (nI 0))]) (S' := []) rfl (by decide +kernel) rfl ?_
    exact l_X7_k1n I J A hV hW np pd hn hpd hnp hpr hN e (by omega) (by omega) (by omega) (by omega) I1 hs1 hh (e + 1) 0 _ (by omega) (by omega) ⟨fun c h1 => by rw [zz_up_ne (by omega), zz_up_ne (by omega)], by rw [zz_up_ne (by decide), zz_up_ne (by decide)], by rw [zz_up_ne (by decide), zz_up_eq], by rw [zz_up_eq, zz_up_ne (by decide)]⟩ (fun j hj => absurd hj (Nat.not_lt_zero j)) (fun x hx => by rw [zz_up_ne (by decide), zz_up_ne (by decide), hs1.1 364 (by decide)]) (fun x hx => by rw [zz_up_ne (by decide), zz_up_ne (by decide), hs1.1 365 (by decide)])
  · have h21 : (aN A) = 12 := zz_bE_t (by omega) (by omega) h21
    exfalso; omega

set_option maxRecDepth 100000 in
set_option maxHeartbeats 4000000 in
theorem c_X7_keep_fs {sc : Nat × (Nat → Int32)} {d : Nat} (I : Nat → Nat → Int32) (J : Nat → Nat → Int64) (A : zA) (hV : MV (zVm I) A) (hW : WF A) (b : Nat) (hb : b < aN A) (hN : aN A = 12) : EvM sc (d + 3) 0 0 mX7_keep [.ref 359, .int (nI b)] (zz_SH, I, J) (zz_is (.int (-4)) (zz_SH, I, J)) := by
  have w1 := hW.1.1
  have w2 := hW.1.2.1
  refine EvM.of (by decide) rfl (Nat.le_of_ble_eq_true rfl) ?_
  show Ev _ _ _ _ _ 0 [some (.ref 359), some (.int (nI b)), none] [] (zz_SH, I, J) _
  refine Ev.run [(.iload_n 1, 1), (.iconst (-1), 1)] (pc' := 2) (L' := [some (.ref 359), some (.int (nI b)), none]) (S' := [.int ((-1)), .int (nI b)]) rfl (by decide +kernel) rfl ?_
  refine Ev.icmp_eq (off := 13) (tgt := 15) (by decide +kernel) (by decide) (fun h2 => absurd h2 (zz_nm b (by omega))) (fun h2 => ?_)
  refine Ev.run [(.aload_n 0, 1), (.iload_n 1, 1)] (pc' := 7) (L' := [some (.ref 359), some (.int (nI b)), none]) (S' := [.int (nI b), .ref 359]) rfl (by decide +kernel) rfl ?_
  refine Ev.callV0 mX7_isPair [.int (nI b)] [] _ rfl lk_RX7_100 (by decide +kernel) (rfl) rfl rfl rfl (Nat.le_of_ble_eq_true rfl) (c_X7_isPair I J (aN A) (nI b) hV.1.1 (by omega)) ?_
  rintro _ _ ⟨rfl, ⟨rfl, h7⟩ | ⟨rfl, h7⟩⟩
  · show Ev _ _ _ _ _ 10 [some (.ref 359), some (.int (nI b)), none] [.int (nI 1)] (zz_SH, I, J) _
    refine Ev.if_ne (off := 5) (tgt := 15) (by decide +kernel) (by decide) (fun h10 => ?_) (fun h10 => absurd h10 (by decide))
    refine Ev.run [(.aload_n 0, 1), (.getfield 75, 3)] (pc' := 19) (L' := [some (.ref 359), some (.int (nI b)), none]) (S' := [.int (I 359 2)]) rfl (by decide +kernel) rfl ?_
    rw [show I 359 2 = nI (aN A) from hV.1.1]
    refine Ev.run [(.bipush 12, 2)] (pc' := 21) (L' := [some (.ref 359), some (.int (nI b)), none]) (S' := [.int (nI 12), .int (nI (aN A))]) rfl (by decide +kernel) rfl ?_
    refine Ev.icmp_ne (off := 6) (tgt := 27) (by decide +kernel) (by decide) (fun h21 => ?_) (fun h21 => ?_)
    · have h21 : ¬ (aN A) = 12 := zz_bE_f (by omega) (by omega) h21
      exfalso; omega
    · have h21 : (aN A) = 12 := zz_bE_t (by omega) (by omega) h21
      refine Ev.run [(.bipush (-4), 2)] (pc' := 26) (L' := [some (.ref 359), some (.int (nI b)), none]) (S' := [.int ((-4))]) rfl (by decide +kernel) rfl ?_
      exact Ev.iret rfl (by decide +kernel) (⟨rfl, rfl⟩)
  · exact absurd ⟨b, hb, rfl⟩ h7

set_option maxRecDepth 100000 in
set_option maxHeartbeats 4000000 in
theorem c_X7_keep_ns {sc : Nat × (Nat → Int32)} {d : Nat} (I : Nat → Nat → Int32) (J : Nat → Nat → Int64) (A : zA) (hV : MV (zVm I) A) (hW : WF A) (np : Nat) (pd : Nat → Nat) (hn : I 359 0 = nI np) (hpd : ∀ j, j < np → I 360 j = nI (pd j)) (hnp : np ≤ 30) (hpr : ∀ j, j < np → 33 ≤ pd j ∧ pd j ≤ 126) (b : Nat) (hb : b < aN A) (hN : aN A < 12) (x : Nat) (hf : fP np pd = some x) (hx : x < 1000) : EvM sc (d + 3) 0 0 mX7_keep [.ref 359, .int (nI b)] (zz_SH, I, J) (fun r σ => r = some (.int (-5)) ∧ ∃ I' : Nat → Nat → Int32, zSc I I' ∧ σ = (zz_SH, I', J)) := by
  have w1 := hW.1.1
  have w2 := hW.1.2.1
  refine EvM.of (by decide) rfl (Nat.le_of_ble_eq_true rfl) ?_
  show Ev _ _ _ _ _ 0 [some (.ref 359), some (.int (nI b)), none] [] (zz_SH, I, J) _
  refine Ev.run [(.iload_n 1, 1), (.iconst (-1), 1)] (pc' := 2) (L' := [some (.ref 359), some (.int (nI b)), none]) (S' := [.int ((-1)), .int (nI b)]) rfl (by decide +kernel) rfl ?_
  refine Ev.icmp_eq (off := 13) (tgt := 15) (by decide +kernel) (by decide) (fun h2 => absurd h2 (zz_nm b (by omega))) (fun h2 => ?_)
  refine Ev.run [(.aload_n 0, 1), (.iload_n 1, 1)] (pc' := 7) (L' := [some (.ref 359), some (.int (nI b)), none]) (S' := [.int (nI b), .ref 359]) rfl (by decide +kernel) rfl ?_
  refine Ev.callV0 mX7_isPair [.int (nI b)] [] _ rfl lk_RX7_100 (by decide +kernel) (rfl) rfl rfl rfl (Nat.le_of_ble_eq_true rfl) (c_X7_isPair I J (aN A) (nI b) hV.1.1 (by omega)) ?_
  rintro _ _ ⟨rfl, ⟨rfl, h7⟩ | ⟨rfl, h7⟩⟩
  · show Ev _ _ _ _ _ 10 [some (.ref 359), some (.int (nI b)), none] [.int (nI 1)] (zz_SH, I, J) _
    refine Ev.if_ne (off := 5) (tgt := 15) (by decide +kernel) (by decide) (fun h10 => ?_) (fun h10 => absurd h10 (by decide))
    refine Ev.run [(.aload_n 0, 1), (.getfield 75, 3)] (pc' := 19) (L' := [some (.ref 359), some (.int (nI b)), none]) (S' := [.int (I 359 2)]) rfl (by decide +kernel) rfl ?_
    rw [show I 359 2 = nI (aN A) from hV.1.1]
    refine Ev.run [(.bipush 12, 2)] (pc' := 21) (L' := [some (.ref 359), some (.int (nI b)), none]) (S' := [.int (nI 12), .int (nI (aN A))]) rfl (by decide +kernel) rfl ?_
    refine Ev.icmp_ne (off := 6) (tgt := 27) (by decide +kernel) (by decide) (fun h21 => ?_) (fun h21 => ?_)
    · have h21 : ¬ (aN A) = 12 := zz_bE_f (by omega) (by omega) h21
      refine Ev.run [(.aload_n 0, 1), (.iconst 1, 1)] (pc' := 29) (L' := [some (.ref 359), some (.int (nI b)), none]) (S' := [.int (nI 1), .ref 359]) rfl (by decide +kernel) rfl ?_
      refine Ev.callV0 mX7_faultOf [.int (nI 1)] [] _ rfl lk_RX7_96 (by decide +kernel) (rfl) rfl rfl rfl (Nat.le_of_ble_eq_true rfl) (c_X7_faultOf_1 I J np pd hn hpd hnp hpr) ?_
      rintro _ _ ⟨rfl, I1, hs1, hh1, rfl⟩
      rw [hf]
      show Ev _ _ _ _ _ 32 [some (.ref 359), some (.int (nI b)), none] [.int (nI x)] (zz_SH, I1, J) _
      refine Ev.if_lt (off := 6) (tgt := 38) (by decide +kernel) (by decide) (fun h32 => ?_) (fun h32 => ?_)
      · have h32 : x < 0 := zz_bL_t (by omega) (by omega) h32
        exfalso; omega
      · have h32 : x ≥ 0 := zz_bL_f (by omega) (by omega) h32
        refine Ev.run [(.bipush (-5), 2)] (pc' := 37) (L' := [some (.ref 359), some (.int (nI b)), none]) (S' := [.int ((-5))]) rfl (by decide +kernel) rfl ?_
        exact Ev.iret rfl (by decide +kernel) (⟨rfl, I1, hs1.sc, rfl⟩)
    · have h21 : (aN A) = 12 := zz_bE_t (by omega) (by omega) h21
      exfalso; omega
  · exact absurd ⟨b, hb, rfl⟩ h7

set_option maxRecDepth 100000 in
set_option maxHeartbeats 4000000 in
theorem l_X7_k2s {sc : Nat × (Nat → Int32)} {d : Nat} (I : Nat → Nat → Int32) (J : Nat → Nat → Int64) (A : zA) (hV : MV (zVm I) A) (hW : WF A) (np : Nat) (pd : Nat → Nat) (hn : I 359 0 = nI np) (hpd : ∀ j, j < np → I 360 j = nI (pd j)) (hnp : np ≤ 30) (hpr : ∀ j, j < np → 33 ≤ pd j ∧ pd j ≤ 126) (b : Nat) (hb : b < aN A) (hN : aN A < 12) (e : Nat) (h_e1 : 1 ≤ e) (h_e2 : e ≤ 12) (h_e3 : e + 1 < np) (h_e4 : np ≤ e + 1 + 12) (I1 : Nat → Nat → Int32) (hs1 : zS7 I I1) (hh : I1 359 15 = nI (e + 1)) : ∀ (μ : Nat) (i : Nat) (I2 : Nat → Nat → Int32), np - (e + 1 + i) < μ → (e + 1 + i ≤ np) → ((∀ c, (c < 361 ∨ 366 ≤ c) → I2 c = I1 c) ∧ I2 361 = I1 361 ∧ I2 362 = upd (I1 362) (aN A) (nI e) ∧ I2 363 = upd (I1 363) (aN A) (nI (np - (e + 1)))) → (∀ j, j < e → I2 364 (12 * aN A + j) = nI (pd j)) → (∀ x, x < 12 * aN A → I2 364 x = I 364 x) → (∀ j, j < i → I2 365 (12 * aN A + j) = nI (pd (e + 1 + j))) → (∀ x, x < 12 * aN A → I2 365 x = I 365 x) →  Ev sc (d + 3) 0 0 mX7_keep 114 [some (.ref 359), some (.int (nI b)), some (.int (nI (e + 1 + i)))] [] (zz_SH, I2, J) (fun r σ => r = some (.int (nI (aN A))) ∧ ∃ I' : Nat → Nat → Int32, KP I I' ∧ MV (zVm I') (addP A np pd e (some b)) ∧ σ = (zz_SH, I', J)) := by
  intro μ
  induction μ with
  | zero => intro i I2 hμ; exact absurd hμ (Nat.not_lt_zero _)
  | succ μ ih =>
    intro i I2 hμ hi hz h4 h4' ht hu
    have w1 := hW.1.1
    have w2 := hW.1.2.1
    refine Ev.run [(.iload_n 2, 1), (.aload_n 0, 1), (.getfield 86, 3)] (pc' := 119) (L' := [some (.ref 359), some (.int (nI b)), some (.int (nI (e + 1 + i)))]) (S' := [.int (I2 359 0), .int (nI (e + 1 + i))]) rfl (by decide +kernel) rfl ?_
    rw [show I2 359 0 = nI (np) from by rw [hz.1 359 (by decide), hs1.2 0 (by decide)]; exact hn]
    refine Ev.icmp_ge (off := 34) (tgt := 153) (by decide +kernel) (by decide) (fun h119 => ?_) (fun h119 => ?_)
    · have h119 : (e + 1 + i) ≥ np := zz_bG_t (by omega) (by omega) h119
      refine Ev.run [(.aload_n 0, 1), (.getfield 13, 3), (.aload_n 0, 1), (.getfield 75, 3)] (pc' := 161) (L' := [some (.ref 359), some (.int (nI b)), some (.int (nI (e + 1 + i)))]) (S' := [.int (I2 359 2), .ref 361]) rfl (by decide +kernel) rfl ?_
      rw [show I2 359 2 = nI (aN A) from by rw [hz.1 359 (by decide), hs1.2 2 (by decide)]; exact hV.1.1]
      refine Ev.run [(.iload_n 1, 1)] (pc' := 162) (L' := [some (.ref 359), some (.int (nI b)), some (.int (nI (e + 1 + i)))]) (S' := [.int (nI b), .int (nI (aN A)), .ref 361]) rfl (by decide +kernel) rfl ?_
      refine Ev.if_ge (off := 8) (tgt := 170) (by decide +kernel) (by decide) (fun h162 => ?_) (fun h162 => ?_)
      · have h162 : b ≥ 0 := zz_bG_t (by omega) (by omega) h162
        refine Ev.run [(.iload_n 1, 1)] (pc' := 171) (L' := [some (.ref 359), some (.int (nI b)), some (.int (nI (e + 1 + i)))]) (S' := [.int (nI b), .int (nI (aN A)), .ref 361]) rfl (by decide +kernel) rfl ?_
        refine Ev.iast (aN A) (by decide +kernel) (rfl) (rfl) (by omega) (by first | decide | omega) ?_
        dsimp only
        refine Ev.run [(.aload_n 0, 1), (.iconst 0, 1)] (pc' := 174) (L' := [some (.ref 359), some (.int (nI b)), some (.int (nI (e + 1 + i)))]) (S' := [.int (nI 0), .ref 359]) rfl (by decide +kernel) rfl ?_
        refine Ev.putf (idx := 86) rfl rfl rfl (by decide +kernel) (rfl) rfl ?_
        dsimp only
        refine Ev.run [(.aload_n 0, 1), (.dup, 1), (.getfield 75, 3)] (pc' := 182) (L' := [some (.ref 359), some (.int (nI b)), some (.int (nI (e + 1 + i)))]) (S' := [.int ((zz_up (zz_up I2 361 (aN A) (nI b)) 359 0 (nI 0)) 359 2), .ref 359]) rfl (by decide +kernel) rfl ?_
        rw [show (zz_up (zz_up I2 361 (aN A) (nI b)) 359 0 (nI 0)) 359 2 = nI (aN A) from by rw [zz_up_eq, zz_upn (by decide), zz_up_ne (by decide), hz.1 359 (by decide), hs1.2 2 (by decide)]; exact hV.1.1]
        refine Ev.run [(.iconst 1, 1), (.iadd, 1)] (pc' := 184) (L' := [some (.ref 359), some (.int (nI b)), some (.int (nI (e + 1 + i)))]) (S' := [.int (nI (aN A) + nI 1), .ref 359]) rfl (by decide +kernel) rfl ?_
        rw [nI_add (aN A) 1]
        refine Ev.putf (idx := 75) rfl rfl rfl (by decide +kernel) (rfl) rfl ?_
        dsimp only
        refine Ev.run [(.aload_n 0, 1), (.getfield 75, 3)] (pc' := 191) (L' := [some (.ref 359), some (.int (nI b)), some (.int (nI (e + 1 + i)))]) (S' := [.int ((zz_up (zz_up (zz_up I2 361 (aN A) (nI b)) 359 0 (nI 0)) 359 2 (nI ((aN A) + 1))) 359 2)]) rfl (by decide +kernel) rfl ?_
        rw [show (zz_up (zz_up (zz_up I2 361 (aN A) (nI b)) 359 0 (nI 0)) 359 2 (nI ((aN A) + 1))) 359 2 = nI (aN A + 1) from by rw [zz_up_eq, zz_ups]]
        refine Ev.run [(.iconst 1, 1), (.isub, 1)] (pc' := 193) (L' := [some (.ref 359), some (.int (nI b)), some (.int (nI (e + 1 + i)))]) (S' := [.int (nI (aN A + 1) - nI 1)]) rfl (by decide +kernel) rfl ?_
        rw [show nI (aN A + 1) - nI 1 = nI (aN A) from zz_sub (by omega)]
        exact Ev.iret rfl (by decide +kernel) (⟨rfl, _, ⟨fun c hc => by rw [zz_up_ne (by omega), zz_up_ne (by omega), zz_up_ne (by omega), hz.1 c (by omega), hs1.1 c (by omega)], by rw [zz_up_ne (by decide), zz_up_ne (by decide), zz_up_ne (by decide), hz.1 379 (by decide), hs1.1 379 (by decide)], by rw [zz_up_ne (by decide), zz_up_ne (by decide), zz_up_ne (by decide), hz.1 380 (by decide), hs1.1 380 (by decide)], by rw [zz_up_eq, zz_upn (by decide), zz_up_eq, zz_ups]⟩, MV_addP hV hW (by rw [zz_up_eq, zz_upn (by decide), zz_up_eq, zz_upn (by decide), zz_up_ne (by decide), hz.1 359 (by decide), hs1.2 8 (by decide)]) (by rw [zz_up_eq, zz_ups]) (fun c h1 h2 => by rw [zz_up_ne (by omega), zz_up_ne (by omega), zz_up_ne (by omega), hz.1 c (by omega), hs1.1 c (by omega)]) ⟨by rw [zz_up_ne (by decide), zz_up_ne (by decide), zz_up_eq, zz_ups]; rfl, by rw [zz_up_ne (by decide), zz_up_ne (by decide), zz_up_ne (by decide), hz.2.2.1, zz_ups], by rw [zz_up_ne (by decide), zz_up_ne (by decide), zz_up_ne (by decide), hz.2.2.2, zz_ups]⟩ (fun p hp => ⟨by rw [zz_up_ne (by decide), zz_up_ne (by decide), zz_up_eq, zz_upn (by omega), hz.2.1, hs1.1 361 (by decide)], by rw [zz_up_ne (by decide), zz_up_ne (by decide), zz_up_ne (by decide), hz.2.2.1, zz_upn (by omega), hs1.1 362 (by decide)], by rw [zz_up_ne (by decide), zz_up_ne (by decide), zz_up_ne (by decide), hz.2.2.2, zz_upn (by omega), hs1.1 363 (by decide)]⟩) (fun j hj => by rw [zz_up_ne (by decide), zz_up_ne (by decide), zz_up_ne (by decide)]; exact h4 j hj) (fun j hj => by rw [zz_up_ne (by decide), zz_up_ne (by decide), zz_up_ne (by decide)]; exact ht j (by omega)) (fun x hx => ⟨by rw [zz_up_ne (by decide), zz_up_ne (by decide), zz_up_ne (by decide)]; exact h4' x hx, by rw [zz_up_ne (by decide), zz_up_ne (by decide), zz_up_ne (by decide)]; exact hu x hx⟩), rfl⟩)
      · have h162 : b < 0 := zz_bG_f (by omega) (by omega) h162
        exfalso; omega
    · have h119 : (e + 1 + i) < np := zz_bG_f (by omega) (by omega) h119
      refine Ev.run [(.aload_n 0, 1), (.getfield 25, 3), (.bipush 12, 2), (.aload_n 0, 1), (.getfield 75, 3)] (pc' := 132) (L' := [some (.ref 359), some (.int (nI b)), some (.int (nI (e + 1 + i)))]) (S' := [.int (I2 359 2), .int (nI 12), .ref 365]) rfl (by decide +kernel) rfl ?_
      rw [show I2 359 2 = nI (aN A) from by rw [hz.1 359 (by decide), hs1.2 2 (by decide)]; exact hV.1.1]
      refine Ev.run [(.imul, 1)] (pc' := 133) (L' := [some (.ref 359), some (.int (nI b)), some (.int (nI (e + 1 + i)))]) (S' := [.int (nI 12 * nI (aN A)), .ref 365]) rfl (by decide +kernel) rfl ?_
      rw [pk_mul 12 (aN A)]
      refine Ev.run [(.iload_n 2, 1), (.iadd, 1)] (pc' := 135) (L' := [some (.ref 359), some (.int (nI b)), some (.int (nI (e + 1 + i)))]) (S' := [.int (nI (12 * (aN A)) + nI (e + 1 + i)), .ref 365]) rfl (by decide +kernel) rfl ?_
      rw [nI_add (12 * (aN A)) (e + 1 + i)]
      refine Ev.run [(.aload_n 0, 1), (.getfield 89, 3)] (pc' := 139) (L' := [some (.ref 359), some (.int (nI b)), some (.int (nI (e + 1 + i)))]) (S' := [.int (I2 359 15), .int (nI ((12 * (aN A)) + (e + 1 + i))), .ref 365]) rfl (by decide +kernel) rfl ?_
      rw [show I2 359 15 = nI (e + 1) from by rw [hz.1 359 (by decide)]; exact hh]
      refine Ev.run [(.isub, 1)] (pc' := 140) (L' := [some (.ref 359), some (.int (nI b)), some (.int (nI (e + 1 + i)))]) (S' := [.int (nI ((12 * (aN A)) + (e + 1 + i)) - nI (e + 1)), .ref 365]) rfl (by decide +kernel) rfl ?_
      rw [show nI ((12 * (aN A)) + (e + 1 + i)) - nI (e + 1) = nI (12 * aN A + i) from zz_sub (by omega)]
      refine Ev.run [(.aload_n 0, 1), (.getfield 7, 3), (.iload_n 2, 1)] (pc' := 145) (L' := [some (.ref 359), some (.int (nI b)), some (.int (nI (e + 1 + i)))]) (S' := [.int (nI (e + 1 + i)), .ref 360, .int (nI (12 * aN A + i)), .ref 365]) rfl (by decide +kernel) rfl ?_
      refine Ev.iald (e + 1 + i) (by decide +kernel) (rfl) (rfl) (by omega) (by first | decide | omega) ?_
      dsimp only
      rw [show I2 360 (e + 1 + i) = nI (pd (e + 1 + i)) from by rw [hz.1 360 (by decide), hs1.1 360 (by decide)]; exact hpd _ (by omega)]
      refine Ev.iast (12 * aN A + i) (by decide +kernel) (rfl) (rfl) (by omega) (by first | decide | omega) ?_
      dsimp only
      refine Ev.run [(.iinc 2 1, 3)] (pc' := 150) (L' := [some (.ref 359), some (.int (nI b)), some (.int (nI (e + 1 + i) + 1))]) (S' := []) rfl (by decide +kernel) rfl ?_
      rw [nI_1 (e + 1 + i)]
      refine Ev.goto (off := (-36)) (tgt := 114) (by decide +kernel) (by decide) ?_
      rw [show e + 1 + i + 1 = e + 1 + (i + 1) by omega]
      refine ih (i + 1) _ (by omega) (by omega) ⟨fun c h1 => by rw [zz_up_ne (by omega)]; exact hz.1 c h1, by rw [zz_up_ne (by decide)]; exact hz.2.1, by rw [zz_up_ne (by decide)]; exact hz.2.2.1, by rw [zz_up_ne (by decide)]; exact hz.2.2.2⟩ (fun j hj => by rw [zz_up_ne (by decide)]; exact h4 j hj) (fun x hx => by rw [zz_up_ne (by decide)]; exact h4' x hx) (fun j hj => ?_) (fun x hx => ?_)
      · by_cases q : j = i
        · subst q; rw [zz_up_eq, zz_ups]
        · rw [zz_up_eq, zz_upn (by omega)]; exact ht j (by omega)
      · rw [zz_up_eq, zz_upn (by omega)]; exact hu x hx

set_option maxRecDepth 100000 in
set_option maxHeartbeats 4000000 in
theorem l_X7_k1s {sc : Nat × (Nat → Int32)} {d : Nat} (I : Nat → Nat → Int32) (J : Nat → Nat → Int64) (A : zA) (hV : MV (zVm I) A) (hW : WF A) (np : Nat) (pd : Nat → Nat) (hn : I 359 0 = nI np) (hpd : ∀ j, j < np → I 360 j = nI (pd j)) (hnp : np ≤ 30) (hpr : ∀ j, j < np → 33 ≤ pd j ∧ pd j ≤ 126) (b : Nat) (hb : b < aN A) (hN : aN A < 12) (e : Nat) (h_e1 : 1 ≤ e) (h_e2 : e ≤ 12) (h_e3 : e + 1 < np) (h_e4 : np ≤ e + 1 + 12) (I1 : Nat → Nat → Int32) (hs1 : zS7 I I1) (hh : I1 359 15 = nI (e + 1)) : ∀ (μ : Nat) (k : Nat) (I2 : Nat → Nat → Int32), e - k < μ → (k ≤ e) → ((∀ c, (c < 361 ∨ 366 ≤ c) → I2 c = I1 c) ∧ I2 361 = I1 361 ∧ I2 362 = upd (I1 362) (aN A) (nI e) ∧ I2 363 = upd (I1 363) (aN A) (nI (np - (e + 1)))) → (∀ j, j < k → I2 364 (12 * aN A + j) = nI (pd j)) → (∀ x, x < 12 * aN A → I2 364 x = I 364 x) → (∀ x, x < 12 * aN A → I2 365 x = I 365 x) →  Ev sc (d + 3) 0 0 mX7_keep 73 [some (.ref 359), some (.int (nI b)), some (.int (nI k))] [] (zz_SH, I2, J) (fun r σ => r = some (.int (nI (aN A))) ∧ ∃ I' : Nat → Nat → Int32, KP I I' ∧ MV (zVm I') (addP A np pd e (some b)) ∧ σ = (zz_SH, I', J)) := by
  intro μ
  induction μ with
  | zero => intro k I2 hμ; exact absurd hμ (Nat.not_lt_zero _)
  | succ μ ih =>
    intro k I2 hμ hk hz ht hu h5
    have w1 := hW.1.1
    have w2 := hW.1.2.1
    refine Ev.run [(.iload_n 2, 1), (.aload_n 0, 1), (.getfield 89, 3)] (pc' := 78) (L' := [some (.ref 359), some (.int (nI b)), some (.int (nI k))]) (S' := [.int (I2 359 15), .int (nI k)]) rfl (by decide +kernel) rfl ?_
    rw [show I2 359 15 = nI (e + 1) from by rw [hz.1 359 (by decide)]; exact hh]
    refine Ev.run [(.iconst 1, 1), (.isub, 1)] (pc' := 80) (L' := [some (.ref 359), some (.int (nI b)), some (.int (nI k))]) (S' := [.int (nI (e + 1) - nI 1), .int (nI k)]) rfl (by decide +kernel) rfl ?_
    rw [show nI (e + 1) - nI 1 = nI e from zz_sub (by omega)]
    refine Ev.icmp_ge (off := 29) (tgt := 109) (by decide +kernel) (by decide) (fun h80 => ?_) (fun h80 => ?_)
    · have h80 : k ≥ e := zz_bG_t (by omega) (by omega) h80
      refine Ev.run [(.aload_n 0, 1), (.getfield 89, 3)] (pc' := 113) (L' := [some (.ref 359), some (.int (nI b)), some (.int (nI k))]) (S' := [.int (I2 359 15)]) rfl (by decide +kernel) rfl ?_
      rw [show I2 359 15 = nI (e + 1) from by rw [hz.1 359 (by decide)]; exact hh]
      refine Ev.run [(.istore_n 2, 1)] (pc' := 114) (L' := [some (.ref 359), some (.int (nI b)), some (.int (nI (e + 1)))]) (S' := []) rfl (by decide +kernel) rfl ?_
      exact l_X7_k2s I J A hV hW np pd hn hpd hnp hpr b hb hN e h_e1 h_e2 h_e3 h_e4 I1 hs1 hh (np + 1) 0 I2 (by omega) (by omega) hz (fun j hj => ht j (by omega)) hu (fun j hj => absurd hj (Nat.not_lt_zero j)) h5
    · have h80 : k < e := zz_bG_f (by omega) (by omega) h80
      refine Ev.run [(.aload_n 0, 1), (.getfield 22, 3), (.bipush 12, 2), (.aload_n 0, 1), (.getfield 75, 3)] (pc' := 93) (L' := [some (.ref 359), some (.int (nI b)), some (.int (nI k))]) (S' := [.int (I2 359 2), .int (nI 12), .ref 364]) rfl (by decide +kernel) rfl ?_
      rw [show I2 359 2 = nI (aN A) from by rw [hz.1 359 (by decide), hs1.2 2 (by decide)]; exact hV.1.1]
      refine Ev.run [(.imul, 1)] (pc' := 94) (L' := [some (.ref 359), some (.int (nI b)), some (.int (nI k))]) (S' := [.int (nI 12 * nI (aN A)), .ref 364]) rfl (by decide +kernel) rfl ?_
      rw [pk_mul 12 (aN A)]
      refine Ev.run [(.iload_n 2, 1), (.iadd, 1)] (pc' := 96) (L' := [some (.ref 359), some (.int (nI b)), some (.int (nI k))]) (S' := [.int (nI (12 * (aN A)) + nI k), .ref 364]) rfl (by decide +kernel) rfl ?_
      rw [nI_add (12 * (aN A)) k]
      refine Ev.run [(.aload_n 0, 1), (.getfield 7, 3), (.iload_n 2, 1)] (pc' := 101) (L' := [some (.ref 359), some (.int (nI b)), some (.int (nI k))]) (S' := [.int (nI k), .ref 360, .int (nI ((12 * (aN A)) + k)), .ref 364]) rfl (by decide +kernel) rfl ?_
      refine Ev.iald k (by decide +kernel) (rfl) (rfl) (by omega) (by first | decide | omega) ?_
      dsimp only
      rw [show I2 360 k = nI (pd k) from by rw [hz.1 360 (by decide), hs1.1 360 (by decide)]; exact hpd _ (by omega)]
      refine Ev.iast ((12 * (aN A)) + k) (by decide +kernel) (rfl) (rfl) (by omega) (by first | decide | omega) ?_
      dsimp only
      refine Ev.run [(.iinc 2 1, 3)] (pc' := 106) (L' := [some (.ref 359), some (.int (nI b)), some (.int (nI k + 1))]) (S' := []) rfl (by decide +kernel) rfl ?_
      rw [nI_1 k]
      refine Ev.goto (off := (-33)) (tgt := 73) (by decide +kernel) (by decide) ?_
      refine ih (k + 1) _ (by omega) (by omega) ⟨fun c h1 => by rw [zz_up_ne (by omega)]; exact hz.1 c h1, by rw [zz_up_ne (by decide)]; exact hz.2.1, by rw [zz_up_ne (by decide)]; exact hz.2.2.1, by rw [zz_up_ne (by decide)]; exact hz.2.2.2⟩ (fun j hj => ?_) (fun x hx => ?_) (fun x hx => by rw [zz_up_ne (by decide)]; exact h5 x hx)
      · by_cases q : j = k
        · subst q; rw [zz_up_eq, zz_ups]
        · rw [zz_up_eq, zz_upn (by omega)]; exact ht j (by omega)
      · rw [zz_up_eq, zz_upn (by omega)]; exact hu x hx

set_option maxRecDepth 100000 in
set_option maxHeartbeats 4000000 in
theorem c_X7_keep_ks {sc : Nat × (Nat → Int32)} {d : Nat} (I : Nat → Nat → Int32) (J : Nat → Nat → Int64) (A : zA) (hV : MV (zVm I) A) (hW : WF A) (np : Nat) (pd : Nat → Nat) (hn : I 359 0 = nI np) (hpd : ∀ j, j < np → I 360 j = nI (pd j)) (hnp : np ≤ 30) (hpr : ∀ j, j < np → 33 ≤ pd j ∧ pd j ≤ 126) (b : Nat) (hb : b < aN A) (hN : aN A < 12) (hf : fP np pd = none) (e : Nat) (he : E1 np pd = e) : EvM sc (d + 3) 0 0 mX7_keep [.ref 359, .int (nI b)] (zz_SH, I, J) (fun r σ => r = some (.int (nI (aN A))) ∧ ∃ I' : Nat → Nat → Int32, KP I I' ∧ MV (zVm I') (addP A np pd e (some b)) ∧ σ = (zz_SH, I', J)) := by
  have w1 := hW.1.1
  have w2 := hW.1.2.1
  have g1 := fP_none hf
  refine EvM.of (by decide) rfl (Nat.le_of_ble_eq_true rfl) ?_
  show Ev _ _ _ _ _ 0 [some (.ref 359), some (.int (nI b)), none] [] (zz_SH, I, J) _
  refine Ev.run [(.iload_n 1, 1), (.iconst (-1), 1)] (pc' := 2) (L' := [some (.ref 359), some (.int (nI b)), none]) (S' := [.int ((-1)), .int (nI b)]) rfl (by decide +kernel) rfl ?_
  refine Ev.icmp_eq (off := 13) (tgt := 15) (by decide +kernel) (by decide) (fun h2 => absurd h2 (zz_nm b (by omega))) (fun h2 => ?_)
  refine Ev.run [(.aload_n 0, 1), (.iload_n 1, 1)] (pc' := 7) (L' := [some (.ref 359), some (.int (nI b)), none]) (S' := [.int (nI b), .ref 359]) rfl (by decide +kernel) rfl ?_
  refine Ev.callV0 mX7_isPair [.int (nI b)] [] _ rfl lk_RX7_100 (by decide +kernel) (rfl) rfl rfl rfl (Nat.le_of_ble_eq_true rfl) (c_X7_isPair I J (aN A) (nI b) hV.1.1 (by omega)) ?_
  rintro _ _ ⟨rfl, ⟨rfl, h7⟩ | ⟨rfl, h7⟩⟩
  · show Ev _ _ _ _ _ 10 [some (.ref 359), some (.int (nI b)), none] [.int (nI 1)] (zz_SH, I, J) _
    refine Ev.if_ne (off := 5) (tgt := 15) (by decide +kernel) (by decide) (fun h10 => ?_) (fun h10 => absurd h10 (by decide))
    refine Ev.run [(.aload_n 0, 1), (.getfield 75, 3)] (pc' := 19) (L' := [some (.ref 359), some (.int (nI b)), none]) (S' := [.int (I 359 2)]) rfl (by decide +kernel) rfl ?_
    rw [show I 359 2 = nI (aN A) from hV.1.1]
    refine Ev.run [(.bipush 12, 2)] (pc' := 21) (L' := [some (.ref 359), some (.int (nI b)), none]) (S' := [.int (nI 12), .int (nI (aN A))]) rfl (by decide +kernel) rfl ?_
    refine Ev.icmp_ne (off := 6) (tgt := 27) (by decide +kernel) (by decide) (fun h21 => ?_) (fun h21 => ?_)
    · have h21 : ¬ (aN A) = 12 := zz_bE_f (by omega) (by omega) h21
      refine Ev.run [(.aload_n 0, 1), (.iconst 1, 1)] (pc' := 29) (L' := [some (.ref 359), some (.int (nI b)), none]) (S' := [.int (nI 1), .ref 359]) rfl (by decide +kernel) rfl ?_
      refine Ev.callV0 mX7_faultOf [.int (nI 1)] [] _ rfl lk_RX7_96 (by decide +kernel) (rfl) rfl rfl rfl (Nat.le_of_ble_eq_true rfl) (c_X7_faultOf_1 I J np pd hn hpd hnp hpr) ?_
      rintro _ _ ⟨rfl, I1, hs1, hh1, rfl⟩
      rw [hf]
      have hh := hh1 hf
      rw [he] at hh
      show Ev _ _ _ _ _ 32 [some (.ref 359), some (.int (nI b)), none] [.int ((-6))] (zz_SH, I1, J) _
      refine Ev.if_lt (off := 6) (tgt := 38) (by decide +kernel) (by decide) (fun h32 => ?_) (fun h32 => absurd h32 (by decide))
      refine Ev.run [(.aload_n 0, 1), (.getfield 16, 3), (.aload_n 0, 1), (.getfield 75, 3)] (pc' := 46) (L' := [some (.ref 359), some (.int (nI b)), none]) (S' := [.int (I1 359 2), .ref 362]) rfl (by decide +kernel) rfl ?_
      rw [show (I1) 359 2 = nI (aN A) from by rw [hs1.2 2 (by decide)]; exact hV.1.1]
      refine Ev.run [(.aload_n 0, 1), (.getfield 89, 3)] (pc' := 50) (L' := [some (.ref 359), some (.int (nI b)), none]) (S' := [.int (I1 359 15), .int (nI (aN A)), .ref 362]) rfl (by decide +kernel) rfl ?_
      rw [show (I1) 359 15 = nI (e + 1) from by exact hh]
      refine Ev.run [(.iconst 1, 1), (.isub, 1)] (pc' := 52) (L' := [some (.ref 359), some (.int (nI b)), none]) (S' := [.int (nI (e + 1) - nI 1), .int (nI (aN A)), .ref 362]) rfl (by decide +kernel) rfl ?_
      rw [show nI (e + 1) - nI 1 = nI e from zz_sub (by omega)]
      refine Ev.iast (aN A) (by decide +kernel) (rfl) (rfl) (by omega) (by first | decide | omega) ?_
      dsimp only
      refine Ev.run [(.aload_n 0, 1), (.getfield 19, 3), (.aload_n 0, 1), (.getfield 75, 3)] (pc' := 61) (L' := [some (.ref 359), some (.int (nI b)), none]) (S' := [.int ((zz_up I1 362 (aN A) (nI e)) 359 2), .ref 363]) rfl (by decide +kernel) rfl ?_
      rw [show (zz_up I1 362 (aN A) (nI e)) 359 2 = nI (aN A) from by rw [zz_up_ne (by decide)]; rw [hs1.2 2 (by decide)]; exact hV.1.1]
      refine Ev.run [(.aload_n 0, 1), (.getfield 86, 3)] (pc' := 65) (L' := [some (.ref 359), some (.int (nI b)), none]) (S' := [.int ((zz_up I1 362 (aN A) (nI e)) 359 0), .int (nI (aN A)), .ref 363]) rfl (by decide +kernel) rfl ?_
      rw [show (zz_up I1 362 (aN A) (nI e)) 359 0 = nI (np) from by rw [zz_up_ne (by decide)]; rw [hs1.2 0 (by decide)]; exact hn]
      refine Ev.run [(.aload_n 0, 1), (.getfield 89, 3)] (pc' := 69) (L' := [some (.ref 359), some (.int (nI b)), none]) (S' := [.int ((zz_up I1 362 (aN A) (nI e)) 359 15), .int (nI np), .int (nI (aN A)), .ref 363]) rfl (by decide +kernel) rfl ?_
      rw [show (zz_up I1 362 (aN A) (nI e)) 359 15 = nI (e + 1) from by rw [zz_up_ne (by decide)]; exact hh]
      refine Ev.run [(.isub, 1)] (pc' := 70) (L' := [some (.ref 359), some (.int (nI b)), none]) (S' := [.int (nI np - nI (e + 1)), .int (nI (aN A)), .ref 363]) rfl (by decide +kernel) rfl ?_
      rw [show nI np - nI (e + 1) = nI (np - (e + 1)) from zz_sub (by omega)]
      refine Ev.iast (aN A) (by decide +kernel) (rfl) (rfl) (by omega) (by first | decide | omega) ?_
      dsimp only
      refine Ev.run [(.iconst 0, 1), (.istore_n 2, 1)] (pc' := 73) (L' := [some (.ref 359), some (.int (nI b)), some (.int (nI 0))]) (S' := []) rfl (by decide +kernel) rfl ?_
      exact l_X7_k1s I J A hV hW np pd hn hpd hnp hpr b hb hN e (by omega) (by omega) (by omega) (by omega) I1 hs1 hh (e + 1) 0 _ (by omega) (by omega) ⟨fun c h1 => by rw [zz_up_ne (by omega), zz_up_ne (by omega)], by rw [zz_up_ne (by decide), zz_up_ne (by decide)], by rw [zz_up_ne (by decide), zz_up_eq], by rw [zz_up_eq, zz_up_ne (by decide)]⟩ (fun j hj => absurd hj (Nat.not_lt_zero j)) (fun x hx => by rw [zz_up_ne (by decide), zz_up_ne (by decide), hs1.1 364 (by decide)]) (fun x hx => by rw [zz_up_ne (by decide), zz_up_ne (by decide), hs1.1 365 (by decide)])
    · have h21 : (aN A) = 12 := zz_bE_t (by omega) (by omega) h21
      exfalso; omega
  · exact absurd ⟨b, hb, rfl⟩ h7
