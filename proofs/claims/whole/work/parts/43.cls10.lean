/-! ===== the class: take, image, restore ===== -/

set_option maxRecDepth 100000 in
set_option maxHeartbeats 4000000 in
theorem l_tkr_105_3 {sc : Nat × (Nat → Int32)} {d : Nat} (Y : Nat → Nat → Int32) (J : Nat → Nat → Int64) (Q : Option Value → zz_St → Prop) (hout : ∀ h : Nat → Int32, (∀ j, j < 5 → h j = Y 30 j) → Ev sc (d + 4) 0 0 mX2_take 35 [some (.ref 105), some (.ref 3), none] [] (zz_SH, zz_cs Y 132 h, J) Q) : ∀ (μ : Nat) (t : Nat) (h : Nat → Int32), 5 - t < μ → (t ≤ 5) → (∀ j, j < t → h j = Y 30 j) →  Ev sc (d + 4) 0 0 mX2_take 12 [some (.ref 105), some (.ref 3), some (.int (nI t))] [] (zz_SH, zz_cs Y 132 h, J) (Q) := by
  intro μ
  induction μ with
  | zero => intro t h hμ; exact absurd hμ (Nat.not_lt_zero _)
  | succ μ ih =>
    intro t h hμ ht hh
    refine Ev.run [(.iload_n 2, 1), (.iconst 5, 1)] (pc' := 14) (L' := [some (.ref 105), some (.ref 3), some (.int (nI t))]) (S' := [.int (nI 5), .int (nI t)]) rfl (by decide +kernel) rfl ?_
    refine Ev.icmp_ge (off := 21) (tgt := 35) (by decide +kernel) (by decide) (fun h14 => ?_) (fun h14 => ?_)
    · have h14 : t ≥ 5 := zz_bG_t (by omega) (by omega) h14
      have hte : t = 5 := by omega
      refine Ev.weakL (L' := [some (.ref 105), some (.ref 3), none]) ⟨rfl, rfl, trivial⟩ ?_
      exact hout h (fun j hj => hh j (by omega))
    · have h14 : t < 5 := zz_bG_f (by omega) (by omega) h14
      refine Ev.run [(.aload_n 0, 1), (.getfield 35, 3), (.iload_n 2, 1), (.aload_n 1, 1), (.getfield 35, 3), (.iload_n 2, 1)] (pc' := 27) (L' := [some (.ref 105), some (.ref 3), some (.int (nI t))]) (S' := [.int (nI t), .ref 30, .int (nI t), .ref 132]) rfl (by decide +kernel) rfl ?_
      refine Ev.iald t (by decide +kernel) (rfl) (rfl) (by omega) (by first | decide | omega) ?_
      refine Ev.iast t (by decide +kernel) (rfl) (rfl) (by omega) (by first | decide | omega) ?_
      dsimp only
      refine Ev.run [(.iinc 2 1, 3)] (pc' := 32) (L' := [some (.ref 105), some (.ref 3), some (.int (nI t + 1))]) (S' := []) rfl (by decide +kernel) rfl ?_
      rw [nI_1 t]
      refine Ev.goto (off := (-20)) (tgt := 12) (by decide +kernel) (by decide) ?_
      rw [zz_cs_ne (x := 30) (by decide), zz_cs_up]
      exact ih (t + 1) _ (by omega) (by omega) (fun j hj => by by_cases e : j = t; rw [e, zz_ups]; rw [zz_upn e]; exact hh j (by omega))

set_option maxRecDepth 100000 in
set_option maxHeartbeats 4000000 in
theorem l_tkm_105_3 {sc : Nat × (Nat → Int32)} {d : Nat} (Y : Nat → Nat → Int32) (J : Nat → Nat → Int64) (Q : Option Value → zz_St → Prop) (hout : ∀ h : Nat → Int32, (∀ j, j < 16 → h j = Y 31 j) → Ev sc (d + 4) 0 0 mX2_take 61 [some (.ref 105), some (.ref 3), none] [] (zz_SH, zz_cs Y 133 h, J) Q) : ∀ (μ : Nat) (t : Nat) (h : Nat → Int32), 16 - t < μ → (t ≤ 16) → (∀ j, j < t → h j = Y 31 j) →  Ev sc (d + 4) 0 0 mX2_take 37 [some (.ref 105), some (.ref 3), some (.int (nI t))] [] (zz_SH, zz_cs Y 133 h, J) (Q) := by
  intro μ
  induction μ with
  | zero => intro t h hμ; exact absurd hμ (Nat.not_lt_zero _)
  | succ μ ih =>
    intro t h hμ ht hh
    refine Ev.run [(.iload_n 2, 1), (.bipush 16, 2)] (pc' := 40) (L' := [some (.ref 105), some (.ref 3), some (.int (nI t))]) (S' := [.int (nI 16), .int (nI t)]) rfl (by decide +kernel) rfl ?_
    refine Ev.icmp_ge (off := 21) (tgt := 61) (by decide +kernel) (by decide) (fun h40 => ?_) (fun h40 => ?_)
    · have h40 : t ≥ 16 := zz_bG_t (by omega) (by omega) h40
      have hte : t = 16 := by omega
      refine Ev.weakL (L' := [some (.ref 105), some (.ref 3), none]) ⟨rfl, rfl, trivial⟩ ?_
      exact hout h (fun j hj => hh j (by omega))
    · have h40 : t < 16 := zz_bG_f (by omega) (by omega) h40
      refine Ev.run [(.aload_n 0, 1), (.getfield 38, 3), (.iload_n 2, 1), (.aload_n 1, 1), (.getfield 38, 3), (.iload_n 2, 1)] (pc' := 53) (L' := [some (.ref 105), some (.ref 3), some (.int (nI t))]) (S' := [.int (nI t), .ref 31, .int (nI t), .ref 133]) rfl (by decide +kernel) rfl ?_
      refine Ev.iald t (by decide +kernel) (rfl) (rfl) (by omega) (by first | decide | omega) ?_
      refine Ev.iast t (by decide +kernel) (rfl) (rfl) (by omega) (by first | decide | omega) ?_
      dsimp only
      refine Ev.run [(.iinc 2 1, 3)] (pc' := 58) (L' := [some (.ref 105), some (.ref 3), some (.int (nI t + 1))]) (S' := []) rfl (by decide +kernel) rfl ?_
      rw [nI_1 t]
      refine Ev.goto (off := (-21)) (tgt := 37) (by decide +kernel) (by decide) ?_
      rw [zz_cs_ne (x := 31) (by decide), zz_cs_up]
      exact ih (t + 1) _ (by omega) (by omega) (fun j hj => by by_cases e : j = t; rw [e, zz_ups]; rw [zz_upn e]; exact hh j (by omega))

set_option maxRecDepth 100000 in
set_option maxHeartbeats 4000000 in
theorem c_X2_take_105_3 {sc : Nat × (Nat → Int32)} {d : Nat} (I : Nat → Nat → Int32) (J : Nat → Nat → Int64) (A : zA) (hC : CR 3 I A) (hW : WF A) : EvM sc (d + 4) 0 0 mX2_take [.ref 105, .ref 3] (zz_SH, I, J) (fun r σ => r = none ∧ ∃ I' : Nat → Nat → Int32, CR 105 I' A ∧ (∀ c, (c < 105 ∨ 205 < c) → I' c = I c) ∧ σ = (zz_SH, I', J)) := by
  refine EvM.of (by decide) rfl (Nat.le_of_ble_eq_true rfl) ?_
  show Ev _ _ _ _ _ 0 [some (.ref 105), some (.ref 3), none] [] (zz_SH, I, J) _
  refine Ev.run [(.aload_n 0, 1), (.aload_n 1, 1)] (pc' := 2) (L' := [some (.ref 105), some (.ref 3), none]) (S' := [.ref 3, .ref 105]) rfl (by decide +kernel) rfl ?_
  refine Ev.callV0 mX2_takePairs [.ref 3] [] _ rfl lk_RX2_69 (by decide +kernel) (rfl) rfl rfl rfl (Nat.le_of_ble_eq_true rfl) (c_tp_105_3 I J hC.2.2) ?_
  rintro _ _ ⟨rfl, I1, p1, p2, p3, rfl⟩
  have hZ1 : CZ 3 I1 := hC.2.2.fr (fun c h1 h2 => p2 c (by omega) (by omega) (by omega))
  show Ev _ _ _ _ _ 5 [some (.ref 105), some (.ref 3), none] [] (zz_SH, I1, J) _
  refine Ev.run [(.aload_n 0, 1), (.aload_n 1, 1)] (pc' := 7) (L' := [some (.ref 105), some (.ref 3), none]) (S' := [.ref 3, .ref 105]) rfl (by decide +kernel) rfl ?_
  refine Ev.callV0 mX2_takeText [.ref 3] [] _ rfl lk_RX2_73 (by decide +kernel) (rfl) rfl rfl rfl (Nat.le_of_ble_eq_true rfl) (c_tt_105_3 I1 J hZ1) ?_
  rintro _ _ ⟨rfl, I2, t1, t2, t3, rfl⟩
  have i2 : ∀ c, (c < 105 ∨ 205 < c) → I2 c = I c := fun c h => (t2 c (by omega) (by omega) (by omega) (by omega)).trans (p2 c (by omega) (by omega) (by omega))
  show Ev _ _ _ _ _ 10 [some (.ref 105), some (.ref 3), none] [] (zz_SH, I2, J) _
  refine Ev.run [(.iconst 0, 1), (.istore_n 2, 1)] (pc' := 12) (L' := [some (.ref 105), some (.ref 3), some (.int (nI 0))]) (S' := []) rfl (by decide +kernel) rfl ?_
  rw [← zz_cs_id I2 132]
  refine l_tkr_105_3 I2 J _ ?_ 6 0 (I2 132) (by omega) (by omega) (fun j hj => absurd hj (Nat.not_lt_zero j))
  intro h5 hh5
  show Ev _ _ _ _ _ 35 [some (.ref 105), some (.ref 3), none] [] (zz_SH, zz_cs I2 132 h5, J) _
  refine Ev.run [(.iconst 0, 1), (.istore_n 2, 1)] (pc' := 37) (L' := [some (.ref 105), some (.ref 3), some (.int (nI 0))]) (S' := []) rfl (by decide +kernel) rfl ?_
  rw [← zz_cs_id (zz_cs I2 132 h5) 133]
  refine l_tkm_105_3 (zz_cs I2 132 h5) J _ ?_ 17 0 (zz_cs I2 132 h5 133) (by omega) (by omega) (fun j hj => absurd hj (Nat.not_lt_zero j))
  intro h6 hh6
  show Ev _ _ _ _ _ 61 [some (.ref 105), some (.ref 3), none] [] (zz_SH, zz_cs (zz_cs I2 132 h5) 133 h6, J) _
  refine Ev.run [(.aload_n 0, 1), (.getfield 44, 3), (.aload_n 1, 1), (.getfield 44, 3)] (pc' := 69) (L' := [some (.ref 105), some (.ref 3), none]) (S' := [.ref 32, .ref 134]) rfl (by decide +kernel) rfl ?_
  refine Ev.callV0 mX4_take [.ref 32] [] _ rfl lk_RX2_76 (by decide +kernel) (rfl) rfl rfl rfl (Nat.le_of_ble_eq_true rfl) (c_X4_take (zz_cs (zz_cs I2 132 h5) 133 h6) J 134 12 32 12 (aa A) ⟨rfl, rfl, by decide⟩ ⟨rfl, rfl, by decide⟩ (show (zz_cs (zz_cs I2 132 h5) 133 h6) 32 1 = nI (aa A) from by rw [zz_cs_ne (by decide), zz_cs_ne (by decide), i2 _ (by omega)]; exact hC.1.2.2.2.2.2.1.1) hW.1.2.2.1 (by decide) hW.1.2.2.1) ?_
  rintro _ _ ⟨rfl, rfl⟩
  generalize hga : zz_sr (zz_cs (zz_cs I2 132 h5) 133 h6) 134 (zz_mix ((zz_cs (zz_cs I2 132 h5) 133 h6) (32 + 1)) ((zz_cs (zz_cs I2 132 h5) 133 h6) (134 + 1)) ((aa A))) ((aa A)) = X3
  have ea : RE X3 134 (zz_cs (zz_cs I2 132 h5) 133 h6) 32 := by rw [← hga]; exact RE_sr (show (zz_cs (zz_cs I2 132 h5) 133 h6) 32 1 = nI (aa A) from by rw [zz_cs_ne (by decide), zz_cs_ne (by decide), i2 _ (by omega)]; exact hC.1.2.2.2.2.2.1.1) hW.1.2.2.1
  have oa : ∀ c, c ≠ 134 → c ≠ 135 → X3 c = (zz_cs (zz_cs I2 132 h5) 133 h6) c := fun c h1 h2 => by rw [← hga]; exact zz_sr_o h1 h2
  show Ev _ _ _ _ _ 72 [some (.ref 105), some (.ref 3), none] [] (zz_SH, X3, J) _
  refine Ev.run [(.aload_n 0, 1), (.getfield 48, 3), (.aload_n 1, 1), (.getfield 48, 3)] (pc' := 80) (L' := [some (.ref 105), some (.ref 3), none]) (S' := [.ref 34, .ref 136]) rfl (by decide +kernel) rfl ?_
  refine Ev.callV0 mX4_take [.ref 34] [] _ rfl lk_RX2_76 (by decide +kernel) (rfl) rfl rfl rfl (Nat.le_of_ble_eq_true rfl) (c_X4_take X3 J 136 12 34 12 (ab A) ⟨rfl, rfl, by decide⟩ ⟨rfl, rfl, by decide⟩ (show X3 34 1 = nI (ab A) from by rw [oa _ (by decide) (by decide), zz_cs_ne (by decide), zz_cs_ne (by decide), i2 _ (by omega)]; exact hC.1.2.2.2.2.2.2.1) hW.1.2.2.2 (by decide) hW.1.2.2.2) ?_
  rintro _ _ ⟨rfl, rfl⟩
  generalize hgb : zz_sr X3 136 (zz_mix (X3 (34 + 1)) (X3 (136 + 1)) ((ab A))) ((ab A)) = X4
  have eb : RE X4 136 X3 34 := by rw [← hgb]; exact RE_sr (show X3 34 1 = nI (ab A) from by rw [oa _ (by decide) (by decide), zz_cs_ne (by decide), zz_cs_ne (by decide), i2 _ (by omega)]; exact hC.1.2.2.2.2.2.2.1) hW.1.2.2.2
  have ob9 : ∀ c, c ≠ 136 → c ≠ 137 → X4 c = X3 c := fun c h1 h2 => by rw [← hgb]; exact zz_sr_o h1 h2
  show Ev _ _ _ _ _ 83 [some (.ref 105), some (.ref 3), none] [] (zz_SH, X4, J) _
  have hfin : ∀ c, (c < 132 ∨ 137 < c) → X4 c = I2 c := fun c h => by rw [ob9 c (by omega) (by omega), oa c (by omega) (by omega), zz_cs_ne (by omega), zz_cs_ne (by omega)]
  have hCR : CR 105 X4 A := by
    refine CR_take hC hW ?_ ?_ ?_ ?_ ?_ ?_ ?_ ?_
    · rw [hfin _ (by omega), t3.2 10 (by decide), p3.1]
    · rw [hfin _ (by omega), t3.1, p2 _ (by omega) (by omega) (by omega)]
    · intro p hp
      obtain ⟨b1, b2, b3⟩ := p1 p hp
      have z : ∀ c, (c = 108 ∨ (138 ≤ c ∧ c ≤ 185)) → X4 c = I1 c := fun c h => (hfin c (by omega)).trans (t2 c (by omega) (by omega) (by omega) (by omega))
      exact ⟨by rw [z _ (by omega)]; exact b1, b2.fr (z _ (by omega)) (z _ (by omega)) rfl rfl, b3.fr (z _ (by omega)) (z _ (by omega)) rfl rfl⟩
    · intro s hs
      obtain ⟨b1, b2, b3⟩ := t1 s hs
      have z : ∀ c, (3 ≤ c ∧ c ≤ 103) → I c = I1 c := fun c h => (p2 c (by omega) (by omega) (by omega)).symm
      exact ⟨b1.fr (hfin _ (by omega)) (hfin _ (by omega)) (z _ (by omega)) (z _ (by omega)), fun p hp => by rw [hfin _ (by omega), z _ (by omega)]; exact b2 p hp, fun t ht => by rw [hfin _ (by omega), z _ (by omega)]; exact b3 t ht⟩
    · intro r hr
      show X4 132 r = I 30 r
      rw [ob9 _ (by decide) (by decide), oa _ (by decide) (by decide), zz_cs_ne (by decide), zz_cs_eq, hh5 r hr, i2 _ (by omega)]
    · intro w hw
      show X4 133 w = I 31 w
      rw [ob9 _ (by decide) (by decide), oa _ (by decide) (by decide), zz_cs_eq, hh6 w hw, zz_cs_ne (by decide), i2 _ (by omega)]
    · exact ea.fr (ob9 _ (by decide) (by decide)) (ob9 _ (by decide) (by decide)) (by rw [zz_cs_ne (by decide), zz_cs_ne (by decide), i2 _ (by omega)]) (by rw [zz_cs_ne (by decide), zz_cs_ne (by decide), i2 _ (by omega)])
    · exact eb.fr rfl rfl (by rw [oa _ (by decide) (by decide), zz_cs_ne (by decide), zz_cs_ne (by decide), i2 _ (by omega)]) (by rw [oa _ (by decide) (by decide), zz_cs_ne (by decide), zz_cs_ne (by decide), i2 _ (by omega)])
  exact Ev.vret rfl (by decide +kernel) (⟨rfl, X4, hCR, fun c h => (hfin c (by omega)).trans (i2 c h), rfl⟩)

set_option maxRecDepth 100000 in
set_option maxHeartbeats 4000000 in
theorem l_tkr_206_3 {sc : Nat × (Nat → Int32)} {d : Nat} (Y : Nat → Nat → Int32) (J : Nat → Nat → Int64) (Q : Option Value → zz_St → Prop) (hout : ∀ h : Nat → Int32, (∀ j, j < 5 → h j = Y 30 j) → Ev sc (d + 4) 0 0 mX2_take 35 [some (.ref 206), some (.ref 3), none] [] (zz_SH, zz_cs Y 233 h, J) Q) : ∀ (μ : Nat) (t : Nat) (h : Nat → Int32), 5 - t < μ → (t ≤ 5) → (∀ j, j < t → h j = Y 30 j) →  Ev sc (d + 4) 0 0 mX2_take 12 [some (.ref 206), some (.ref 3), some (.int (nI t))] [] (zz_SH, zz_cs Y 233 h, J) (Q) := by
  intro μ
  induction μ with
  | zero => intro t h hμ; exact absurd hμ (Nat.not_lt_zero _)
  | succ μ ih =>
    intro t h hμ ht hh
    refine Ev.run [(.iload_n 2, 1), (.iconst 5, 1)] (pc' := 14) (L' := [some (.ref 206), some (.ref 3), some (.int (nI t))]) (S' := [.int (nI 5), .int (nI t)]) rfl (by decide +kernel) rfl ?_
    refine Ev.icmp_ge (off := 21) (tgt := 35) (by decide +kernel) (by decide) (fun h14 => ?_) (fun h14 => ?_)
    · have h14 : t ≥ 5 := zz_bG_t (by omega) (by omega) h14
      have hte : t = 5 := by omega
      refine Ev.weakL (L' := [some (.ref 206), some (.ref 3), none]) ⟨rfl, rfl, trivial⟩ ?_
      exact hout h (fun j hj => hh j (by omega))
    · have h14 : t < 5 := zz_bG_f (by omega) (by omega) h14
      refine Ev.run [(.aload_n 0, 1), (.getfield 35, 3), (.iload_n 2, 1), (.aload_n 1, 1), (.getfield 35, 3), (.iload_n 2, 1)] (pc' := 27) (L' := [some (.ref 206), some (.ref 3), some (.int (nI t))]) (S' := [.int (nI t), .ref 30, .int (nI t), .ref 233]) rfl (by decide +kernel) rfl ?_
      refine Ev.iald t (by decide +kernel) (rfl) (rfl) (by omega) (by first | decide | omega) ?_
      refine Ev.iast t (by decide +kernel) (rfl) (rfl) (by omega) (by first | decide | omega) ?_
      dsimp only
      refine Ev.run [(.iinc 2 1, 3)] (pc' := 32) (L' := [some (.ref 206), some (.ref 3), some (.int (nI t + 1))]) (S' := []) rfl (by decide +kernel) rfl ?_
      rw [nI_1 t]
      refine Ev.goto (off := (-20)) (tgt := 12) (by decide +kernel) (by decide) ?_
      rw [zz_cs_ne (x := 30) (by decide), zz_cs_up]
      exact ih (t + 1) _ (by omega) (by omega) (fun j hj => by by_cases e : j = t; rw [e, zz_ups]; rw [zz_upn e]; exact hh j (by omega))

set_option maxRecDepth 100000 in
set_option maxHeartbeats 4000000 in
theorem l_tkm_206_3 {sc : Nat × (Nat → Int32)} {d : Nat} (Y : Nat → Nat → Int32) (J : Nat → Nat → Int64) (Q : Option Value → zz_St → Prop) (hout : ∀ h : Nat → Int32, (∀ j, j < 16 → h j = Y 31 j) → Ev sc (d + 4) 0 0 mX2_take 61 [some (.ref 206), some (.ref 3), none] [] (zz_SH, zz_cs Y 234 h, J) Q) : ∀ (μ : Nat) (t : Nat) (h : Nat → Int32), 16 - t < μ → (t ≤ 16) → (∀ j, j < t → h j = Y 31 j) →  Ev sc (d + 4) 0 0 mX2_take 37 [some (.ref 206), some (.ref 3), some (.int (nI t))] [] (zz_SH, zz_cs Y 234 h, J) (Q) := by
  intro μ
  induction μ with
  | zero => intro t h hμ; exact absurd hμ (Nat.not_lt_zero _)
  | succ μ ih =>
    intro t h hμ ht hh
    refine Ev.run [(.iload_n 2, 1), (.bipush 16, 2)] (pc' := 40) (L' := [some (.ref 206), some (.ref 3), some (.int (nI t))]) (S' := [.int (nI 16), .int (nI t)]) rfl (by decide +kernel) rfl ?_
    refine Ev.icmp_ge (off := 21) (tgt := 61) (by decide +kernel) (by decide) (fun h40 => ?_) (fun h40 => ?_)
    · have h40 : t ≥ 16 := zz_bG_t (by omega) (by omega) h40
      have hte : t = 16 := by omega
      refine Ev.weakL (L' := [some (.ref 206), some (.ref 3), none]) ⟨rfl, rfl, trivial⟩ ?_
      exact hout h (fun j hj => hh j (by omega))
    · have h40 : t < 16 := zz_bG_f (by omega) (by omega) h40
      refine Ev.run [(.aload_n 0, 1), (.getfield 38, 3), (.iload_n 2, 1), (.aload_n 1, 1), (.getfield 38, 3), (.iload_n 2, 1)] (pc' := 53) (L' := [some (.ref 206), some (.ref 3), some (.int (nI t))]) (S' := [.int (nI t), .ref 31, .int (nI t), .ref 234]) rfl (by decide +kernel) rfl ?_
      refine Ev.iald t (by decide +kernel) (rfl) (rfl) (by omega) (by first | decide | omega) ?_
      refine Ev.iast t (by decide +kernel) (rfl) (rfl) (by omega) (by first | decide | omega) ?_
      dsimp only
      refine Ev.run [(.iinc 2 1, 3)] (pc' := 58) (L' := [some (.ref 206), some (.ref 3), some (.int (nI t + 1))]) (S' := []) rfl (by decide +kernel) rfl ?_
      rw [nI_1 t]
      refine Ev.goto (off := (-21)) (tgt := 37) (by decide +kernel) (by decide) ?_
      rw [zz_cs_ne (x := 31) (by decide), zz_cs_up]
      exact ih (t + 1) _ (by omega) (by omega) (fun j hj => by by_cases e : j = t; rw [e, zz_ups]; rw [zz_upn e]; exact hh j (by omega))

set_option maxRecDepth 100000 in
set_option maxHeartbeats 4000000 in
theorem c_X2_take_206_3 {sc : Nat × (Nat → Int32)} {d : Nat} (I : Nat → Nat → Int32) (J : Nat → Nat → Int64) (A : zA) (hC : CR 3 I A) (hW : WF A) : EvM sc (d + 4) 0 0 mX2_take [.ref 206, .ref 3] (zz_SH, I, J) (fun r σ => r = none ∧ ∃ I' : Nat → Nat → Int32, CR 206 I' A ∧ (∀ c, (c < 206 ∨ 306 < c) → I' c = I c) ∧ σ = (zz_SH, I', J)) := by
  refine EvM.of (by decide) rfl (Nat.le_of_ble_eq_true rfl) ?_
  show Ev _ _ _ _ _ 0 [some (.ref 206), some (.ref 3), none] [] (zz_SH, I, J) _
  refine Ev.run [(.aload_n 0, 1), (.aload_n 1, 1)] (pc' := 2) (L' := [some (.ref 206), some (.ref 3), none]) (S' := [.ref 3, .ref 206]) rfl (by decide +kernel) rfl ?_
  refine Ev.callV0 mX2_takePairs [.ref 3] [] _ rfl lk_RX2_69 (by decide +kernel) (rfl) rfl rfl rfl (Nat.le_of_ble_eq_true rfl) (c_tp_206_3 I J hC.2.2) ?_
  rintro _ _ ⟨rfl, I1, p1, p2, p3, rfl⟩
  have hZ1 : CZ 3 I1 := hC.2.2.fr (fun c h1 h2 => p2 c (by omega) (by omega) (by omega))
  show Ev _ _ _ _ _ 5 [some (.ref 206), some (.ref 3), none] [] (zz_SH, I1, J) _
  refine Ev.run [(.aload_n 0, 1), (.aload_n 1, 1)] (pc' := 7) (L' := [some (.ref 206), some (.ref 3), none]) (S' := [.ref 3, .ref 206]) rfl (by decide +kernel) rfl ?_
  refine Ev.callV0 mX2_takeText [.ref 3] [] _ rfl lk_RX2_73 (by decide +kernel) (rfl) rfl rfl rfl (Nat.le_of_ble_eq_true rfl) (c_tt_206_3 I1 J hZ1) ?_
  rintro _ _ ⟨rfl, I2, t1, t2, t3, rfl⟩
  have i2 : ∀ c, (c < 206 ∨ 306 < c) → I2 c = I c := fun c h => (t2 c (by omega) (by omega) (by omega) (by omega)).trans (p2 c (by omega) (by omega) (by omega))
  show Ev _ _ _ _ _ 10 [some (.ref 206), some (.ref 3), none] [] (zz_SH, I2, J) _
  refine Ev.run [(.iconst 0, 1), (.istore_n 2, 1)] (pc' := 12) (L' := [some (.ref 206), some (.ref 3), some (.int (nI 0))]) (S' := []) rfl (by decide +kernel) rfl ?_
  rw [← zz_cs_id I2 233]
  refine l_tkr_206_3 I2 J _ ?_ 6 0 (I2 233) (by omega) (by omega) (fun j hj => absurd hj (Nat.not_lt_zero j))
  intro h5 hh5
  show Ev _ _ _ _ _ 35 [some (.ref 206), some (.ref 3), none] [] (zz_SH, zz_cs I2 233 h5, J) _
  refine Ev.run [(.iconst 0, 1), (.istore_n 2, 1)] (pc' := 37) (L' := [some (.ref 206), some (.ref 3), some (.int (nI 0))]) (S' := []) rfl (by decide +kernel) rfl ?_
  rw [← zz_cs_id (zz_cs I2 233 h5) 234]
  refine l_tkm_206_3 (zz_cs I2 233 h5) J _ ?_ 17 0 (zz_cs I2 233 h5 234) (by omega) (by omega) (fun j hj => absurd hj (Nat.not_lt_zero j))
  intro h6 hh6
  show Ev _ _ _ _ _ 61 [some (.ref 206), some (.ref 3), none] [] (zz_SH, zz_cs (zz_cs I2 233 h5) 234 h6, J) _
  refine Ev.run [(.aload_n 0, 1), (.getfield 44, 3), (.aload_n 1, 1), (.getfield 44, 3)] (pc' := 69) (L' := [some (.ref 206), some (.ref 3), none]) (S' := [.ref 32, .ref 235]) rfl (by decide +kernel) rfl ?_
  refine Ev.callV0 mX4_take [.ref 32] [] _ rfl lk_RX2_76 (by decide +kernel) (rfl) rfl rfl rfl (Nat.le_of_ble_eq_true rfl) (c_X4_take (zz_cs (zz_cs I2 233 h5) 234 h6) J 235 12 32 12 (aa A) ⟨rfl, rfl, by decide⟩ ⟨rfl, rfl, by decide⟩ (show (zz_cs (zz_cs I2 233 h5) 234 h6) 32 1 = nI (aa A) from by rw [zz_cs_ne (by decide), zz_cs_ne (by decide), i2 _ (by omega)]; exact hC.1.2.2.2.2.2.1.1) hW.1.2.2.1 (by decide) hW.1.2.2.1) ?_
  rintro _ _ ⟨rfl, rfl⟩
  generalize hga : zz_sr (zz_cs (zz_cs I2 233 h5) 234 h6) 235 (zz_mix ((zz_cs (zz_cs I2 233 h5) 234 h6) (32 + 1)) ((zz_cs (zz_cs I2 233 h5) 234 h6) (235 + 1)) ((aa A))) ((aa A)) = X3
  have ea : RE X3 235 (zz_cs (zz_cs I2 233 h5) 234 h6) 32 := by rw [← hga]; exact RE_sr (show (zz_cs (zz_cs I2 233 h5) 234 h6) 32 1 = nI (aa A) from by rw [zz_cs_ne (by decide), zz_cs_ne (by decide), i2 _ (by omega)]; exact hC.1.2.2.2.2.2.1.1) hW.1.2.2.1
  have oa : ∀ c, c ≠ 235 → c ≠ 236 → X3 c = (zz_cs (zz_cs I2 233 h5) 234 h6) c := fun c h1 h2 => by rw [← hga]; exact zz_sr_o h1 h2
  show Ev _ _ _ _ _ 72 [some (.ref 206), some (.ref 3), none] [] (zz_SH, X3, J) _
  refine Ev.run [(.aload_n 0, 1), (.getfield 48, 3), (.aload_n 1, 1), (.getfield 48, 3)] (pc' := 80) (L' := [some (.ref 206), some (.ref 3), none]) (S' := [.ref 34, .ref 237]) rfl (by decide +kernel) rfl ?_
  refine Ev.callV0 mX4_take [.ref 34] [] _ rfl lk_RX2_76 (by decide +kernel) (rfl) rfl rfl rfl (Nat.le_of_ble_eq_true rfl) (c_X4_take X3 J 237 12 34 12 (ab A) ⟨rfl, rfl, by decide⟩ ⟨rfl, rfl, by decide⟩ (show X3 34 1 = nI (ab A) from by rw [oa _ (by decide) (by decide), zz_cs_ne (by decide), zz_cs_ne (by decide), i2 _ (by omega)]; exact hC.1.2.2.2.2.2.2.1) hW.1.2.2.2 (by decide) hW.1.2.2.2) ?_
  rintro _ _ ⟨rfl, rfl⟩
  generalize hgb : zz_sr X3 237 (zz_mix (X3 (34 + 1)) (X3 (237 + 1)) ((ab A))) ((ab A)) = X4
  have eb : RE X4 237 X3 34 := by rw [← hgb]; exact RE_sr (show X3 34 1 = nI (ab A) from by rw [oa _ (by decide) (by decide), zz_cs_ne (by decide), zz_cs_ne (by decide), i2 _ (by omega)]; exact hC.1.2.2.2.2.2.2.1) hW.1.2.2.2
  have ob9 : ∀ c, c ≠ 237 → c ≠ 238 → X4 c = X3 c := fun c h1 h2 => by rw [← hgb]; exact zz_sr_o h1 h2
  show Ev _ _ _ _ _ 83 [some (.ref 206), some (.ref 3), none] [] (zz_SH, X4, J) _
  have hfin : ∀ c, (c < 233 ∨ 238 < c) → X4 c = I2 c := fun c h => by rw [ob9 c (by omega) (by omega), oa c (by omega) (by omega), zz_cs_ne (by omega), zz_cs_ne (by omega)]
  have hCR : CR 206 X4 A := by
    refine CR_take hC hW ?_ ?_ ?_ ?_ ?_ ?_ ?_ ?_
    · rw [hfin _ (by omega), t3.2 10 (by decide), p3.1]
    · rw [hfin _ (by omega), t3.1, p2 _ (by omega) (by omega) (by omega)]
    · intro p hp
      obtain ⟨b1, b2, b3⟩ := p1 p hp
      have z : ∀ c, (c = 209 ∨ (239 ≤ c ∧ c ≤ 286)) → X4 c = I1 c := fun c h => (hfin c (by omega)).trans (t2 c (by omega) (by omega) (by omega) (by omega))
      exact ⟨by rw [z _ (by omega)]; exact b1, b2.fr (z _ (by omega)) (z _ (by omega)) rfl rfl, b3.fr (z _ (by omega)) (z _ (by omega)) rfl rfl⟩
    · intro s hs
      obtain ⟨b1, b2, b3⟩ := t1 s hs
      have z : ∀ c, (3 ≤ c ∧ c ≤ 103) → I c = I1 c := fun c h => (p2 c (by omega) (by omega) (by omega)).symm
      exact ⟨b1.fr (hfin _ (by omega)) (hfin _ (by omega)) (z _ (by omega)) (z _ (by omega)), fun p hp => by rw [hfin _ (by omega), z _ (by omega)]; exact b2 p hp, fun t ht => by rw [hfin _ (by omega), z _ (by omega)]; exact b3 t ht⟩
    · intro r hr
      show X4 233 r = I 30 r
      rw [ob9 _ (by decide) (by decide), oa _ (by decide) (by decide), zz_cs_ne (by decide), zz_cs_eq, hh5 r hr, i2 _ (by omega)]
    · intro w hw
      show X4 234 w = I 31 w
      rw [ob9 _ (by decide) (by decide), oa _ (by decide) (by decide), zz_cs_eq, hh6 w hw, zz_cs_ne (by decide), i2 _ (by omega)]
    · exact ea.fr (ob9 _ (by decide) (by decide)) (ob9 _ (by decide) (by decide)) (by rw [zz_cs_ne (by decide), zz_cs_ne (by decide), i2 _ (by omega)]) (by rw [zz_cs_ne (by decide), zz_cs_ne (by decide), i2 _ (by omega)])
    · exact eb.fr rfl rfl (by rw [oa _ (by decide) (by decide), zz_cs_ne (by decide), zz_cs_ne (by decide), i2 _ (by omega)]) (by rw [oa _ (by decide) (by decide), zz_cs_ne (by decide), zz_cs_ne (by decide), i2 _ (by omega)])
  exact Ev.vret rfl (by decide +kernel) (⟨rfl, X4, hCR, fun c h => (hfin c (by omega)).trans (i2 c h), rfl⟩)

set_option maxRecDepth 100000 in
set_option maxHeartbeats 4000000 in
theorem l_tkr_3_105 {sc : Nat × (Nat → Int32)} {d : Nat} (Y : Nat → Nat → Int32) (J : Nat → Nat → Int64) (Q : Option Value → zz_St → Prop) (hout : ∀ h : Nat → Int32, (∀ j, j < 5 → h j = Y 132 j) → Ev sc (d + 4) 0 0 mX2_take 35 [some (.ref 3), some (.ref 105), none] [] (zz_SH, zz_cs Y 30 h, J) Q) : ∀ (μ : Nat) (t : Nat) (h : Nat → Int32), 5 - t < μ → (t ≤ 5) → (∀ j, j < t → h j = Y 132 j) →  Ev sc (d + 4) 0 0 mX2_take 12 [some (.ref 3), some (.ref 105), some (.int (nI t))] [] (zz_SH, zz_cs Y 30 h, J) (Q) := by
  intro μ
  induction μ with
  | zero => intro t h hμ; exact absurd hμ (Nat.not_lt_zero _)
  | succ μ ih =>
    intro t h hμ ht hh
    refine Ev.run [(.iload_n 2, 1), (.iconst 5, 1)] (pc' := 14) (L' := [some (.ref 3), some (.ref 105), some (.int (nI t))]) (S' := [.int (nI 5), .int (nI t)]) rfl (by decide +kernel) rfl ?_
    refine Ev.icmp_ge (off := 21) (tgt := 35) (by decide +kernel) (by decide) (fun h14 => ?_) (fun h14 => ?_)
    · have h14 : t ≥ 5 := zz_bG_t (by omega) (by omega) h14
      have hte : t = 5 := by omega
      refine Ev.weakL (L' := [some (.ref 3), some (.ref 105), none]) ⟨rfl, rfl, trivial⟩ ?_
      exact hout h (fun j hj => hh j (by omega))
    · have h14 : t < 5 := zz_bG_f (by omega) (by omega) h14
      refine Ev.run [(.aload_n 0, 1), (.getfield 35, 3), (.iload_n 2, 1), (.aload_n 1, 1), (.getfield 35, 3), (.iload_n 2, 1)] (pc' := 27) (L' := [some (.ref 3), some (.ref 105), some (.int (nI t))]) (S' := [.int (nI t), .ref 132, .int (nI t), .ref 30]) rfl (by decide +kernel) rfl ?_
      refine Ev.iald t (by decide +kernel) (rfl) (rfl) (by omega) (by first | decide | omega) ?_
      refine Ev.iast t (by decide +kernel) (rfl) (rfl) (by omega) (by first | decide | omega) ?_
      dsimp only
      refine Ev.run [(.iinc 2 1, 3)] (pc' := 32) (L' := [some (.ref 3), some (.ref 105), some (.int (nI t + 1))]) (S' := []) rfl (by decide +kernel) rfl ?_
      rw [nI_1 t]
      refine Ev.goto (off := (-20)) (tgt := 12) (by decide +kernel) (by decide) ?_
      rw [zz_cs_ne (x := 132) (by decide), zz_cs_up]
      exact ih (t + 1) _ (by omega) (by omega) (fun j hj => by by_cases e : j = t; rw [e, zz_ups]; rw [zz_upn e]; exact hh j (by omega))

set_option maxRecDepth 100000 in
set_option maxHeartbeats 4000000 in
theorem l_tkm_3_105 {sc : Nat × (Nat → Int32)} {d : Nat} (Y : Nat → Nat → Int32) (J : Nat → Nat → Int64) (Q : Option Value → zz_St → Prop) (hout : ∀ h : Nat → Int32, (∀ j, j < 16 → h j = Y 133 j) → Ev sc (d + 4) 0 0 mX2_take 61 [some (.ref 3), some (.ref 105), none] [] (zz_SH, zz_cs Y 31 h, J) Q) : ∀ (μ : Nat) (t : Nat) (h : Nat → Int32), 16 - t < μ → (t ≤ 16) → (∀ j, j < t → h j = Y 133 j) →  Ev sc (d + 4) 0 0 mX2_take 37 [some (.ref 3), some (.ref 105), some (.int (nI t))] [] (zz_SH, zz_cs Y 31 h, J) (Q) := by
  intro μ
  induction μ with
  | zero => intro t h hμ; exact absurd hμ (Nat.not_lt_zero _)
  | succ μ ih =>
    intro t h hμ ht hh
    refine Ev.run [(.iload_n 2, 1), (.bipush 16, 2)] (pc' := 40) (L' := [some (.ref 3), some (.ref 105), some (.int (nI t))]) (S' := [.int (nI 16), .int (nI t)]) rfl (by decide +kernel) rfl ?_
    refine Ev.icmp_ge (off := 21) (tgt := 61) (by decide +kernel) (by decide) (fun h40 => ?_) (fun h40 => ?_)
    · have h40 : t ≥ 16 := zz_bG_t (by omega) (by omega) h40
      have hte : t = 16 := by omega
      refine Ev.weakL (L' := [some (.ref 3), some (.ref 105), none]) ⟨rfl, rfl, trivial⟩ ?_
      exact hout h (fun j hj => hh j (by omega))
    · have h40 : t < 16 := zz_bG_f (by omega) (by omega) h40
      refine Ev.run [(.aload_n 0, 1), (.getfield 38, 3), (.iload_n 2, 1), (.aload_n 1, 1), (.getfield 38, 3), (.iload_n 2, 1)] (pc' := 53) (L' := [some (.ref 3), some (.ref 105), some (.int (nI t))]) (S' := [.int (nI t), .ref 133, .int (nI t), .ref 31]) rfl (by decide +kernel) rfl ?_
      refine Ev.iald t (by decide +kernel) (rfl) (rfl) (by omega) (by first | decide | omega) ?_
      refine Ev.iast t (by decide +kernel) (rfl) (rfl) (by omega) (by first | decide | omega) ?_
      dsimp only
      refine Ev.run [(.iinc 2 1, 3)] (pc' := 58) (L' := [some (.ref 3), some (.ref 105), some (.int (nI t + 1))]) (S' := []) rfl (by decide +kernel) rfl ?_
      rw [nI_1 t]
      refine Ev.goto (off := (-21)) (tgt := 37) (by decide +kernel) (by decide) ?_
      rw [zz_cs_ne (x := 133) (by decide), zz_cs_up]
      exact ih (t + 1) _ (by omega) (by omega) (fun j hj => by by_cases e : j = t; rw [e, zz_ups]; rw [zz_upn e]; exact hh j (by omega))

set_option maxRecDepth 100000 in
set_option maxHeartbeats 4000000 in
theorem c_X2_take_3_105 {sc : Nat × (Nat → Int32)} {d : Nat} (I : Nat → Nat → Int32) (J : Nat → Nat → Int64) (A : zA) (hC : CR 105 I A) (hW : WF A) : EvM sc (d + 4) 0 0 mX2_take [.ref 3, .ref 105] (zz_SH, I, J) (fun r σ => r = none ∧ ∃ I' : Nat → Nat → Int32, CR 3 I' A ∧ (∀ c, (c < 3 ∨ 103 < c) → I' c = I c) ∧ σ = (zz_SH, I', J)) := by
  refine EvM.of (by decide) rfl (Nat.le_of_ble_eq_true rfl) ?_
  show Ev _ _ _ _ _ 0 [some (.ref 3), some (.ref 105), none] [] (zz_SH, I, J) _
  refine Ev.run [(.aload_n 0, 1), (.aload_n 1, 1)] (pc' := 2) (L' := [some (.ref 3), some (.ref 105), none]) (S' := [.ref 105, .ref 3]) rfl (by decide +kernel) rfl ?_
  refine Ev.callV0 mX2_takePairs [.ref 105] [] _ rfl lk_RX2_69 (by decide +kernel) (rfl) rfl rfl rfl (Nat.le_of_ble_eq_true rfl) (c_tp_3_105 I J hC.2.2) ?_
  rintro _ _ ⟨rfl, I1, p1, p2, p3, rfl⟩
  have hZ1 : CZ 105 I1 := hC.2.2.fr (fun c h1 h2 => p2 c (by omega) (by omega) (by omega))
  show Ev _ _ _ _ _ 5 [some (.ref 3), some (.ref 105), none] [] (zz_SH, I1, J) _
  refine Ev.run [(.aload_n 0, 1), (.aload_n 1, 1)] (pc' := 7) (L' := [some (.ref 3), some (.ref 105), none]) (S' := [.ref 105, .ref 3]) rfl (by decide +kernel) rfl ?_
  refine Ev.callV0 mX2_takeText [.ref 105] [] _ rfl lk_RX2_73 (by decide +kernel) (rfl) rfl rfl rfl (Nat.le_of_ble_eq_true rfl) (c_tt_3_105 I1 J hZ1) ?_
  rintro _ _ ⟨rfl, I2, t1, t2, t3, rfl⟩
  have i2 : ∀ c, (c < 3 ∨ 103 < c) → I2 c = I c := fun c h => (t2 c (by omega) (by omega) (by omega) (by omega)).trans (p2 c (by omega) (by omega) (by omega))
  show Ev _ _ _ _ _ 10 [some (.ref 3), some (.ref 105), none] [] (zz_SH, I2, J) _
  refine Ev.run [(.iconst 0, 1), (.istore_n 2, 1)] (pc' := 12) (L' := [some (.ref 3), some (.ref 105), some (.int (nI 0))]) (S' := []) rfl (by decide +kernel) rfl ?_
  rw [← zz_cs_id I2 30]
  refine l_tkr_3_105 I2 J _ ?_ 6 0 (I2 30) (by omega) (by omega) (fun j hj => absurd hj (Nat.not_lt_zero j))
  intro h5 hh5
  show Ev _ _ _ _ _ 35 [some (.ref 3), some (.ref 105), none] [] (zz_SH, zz_cs I2 30 h5, J) _
  refine Ev.run [(.iconst 0, 1), (.istore_n 2, 1)] (pc' := 37) (L' := [some (.ref 3), some (.ref 105), some (.int (nI 0))]) (S' := []) rfl (by decide +kernel) rfl ?_
  rw [← zz_cs_id (zz_cs I2 30 h5) 31]
  refine l_tkm_3_105 (zz_cs I2 30 h5) J _ ?_ 17 0 (zz_cs I2 30 h5 31) (by omega) (by omega) (fun j hj => absurd hj (Nat.not_lt_zero j))
  intro h6 hh6
  show Ev _ _ _ _ _ 61 [some (.ref 3), some (.ref 105), none] [] (zz_SH, zz_cs (zz_cs I2 30 h5) 31 h6, J) _
  refine Ev.run [(.aload_n 0, 1), (.getfield 44, 3), (.aload_n 1, 1), (.getfield 44, 3)] (pc' := 69) (L' := [some (.ref 3), some (.ref 105), none]) (S' := [.ref 134, .ref 32]) rfl (by decide +kernel) rfl ?_
  refine Ev.callV0 mX4_take [.ref 134] [] _ rfl lk_RX2_76 (by decide +kernel) (rfl) rfl rfl rfl (Nat.le_of_ble_eq_true rfl) (c_X4_take (zz_cs (zz_cs I2 30 h5) 31 h6) J 32 12 134 12 (aa A) ⟨rfl, rfl, by decide⟩ ⟨rfl, rfl, by decide⟩ (show (zz_cs (zz_cs I2 30 h5) 31 h6) 134 1 = nI (aa A) from by rw [zz_cs_ne (by decide), zz_cs_ne (by decide), i2 _ (by omega)]; exact hC.1.2.2.2.2.2.1.1) hW.1.2.2.1 (by decide) hW.1.2.2.1) ?_
  rintro _ _ ⟨rfl, rfl⟩
  generalize hga : zz_sr (zz_cs (zz_cs I2 30 h5) 31 h6) 32 (zz_mix ((zz_cs (zz_cs I2 30 h5) 31 h6) (134 + 1)) ((zz_cs (zz_cs I2 30 h5) 31 h6) (32 + 1)) ((aa A))) ((aa A)) = X3
  have ea : RE X3 32 (zz_cs (zz_cs I2 30 h5) 31 h6) 134 := by rw [← hga]; exact RE_sr (show (zz_cs (zz_cs I2 30 h5) 31 h6) 134 1 = nI (aa A) from by rw [zz_cs_ne (by decide), zz_cs_ne (by decide), i2 _ (by omega)]; exact hC.1.2.2.2.2.2.1.1) hW.1.2.2.1
  have oa : ∀ c, c ≠ 32 → c ≠ 33 → X3 c = (zz_cs (zz_cs I2 30 h5) 31 h6) c := fun c h1 h2 => by rw [← hga]; exact zz_sr_o h1 h2
  show Ev _ _ _ _ _ 72 [some (.ref 3), some (.ref 105), none] [] (zz_SH, X3, J) _
  refine Ev.run [(.aload_n 0, 1), (.getfield 48, 3), (.aload_n 1, 1), (.getfield 48, 3)] (pc' := 80) (L' := [some (.ref 3), some (.ref 105), none]) (S' := [.ref 136, .ref 34]) rfl (by decide +kernel) rfl ?_
  refine Ev.callV0 mX4_take [.ref 136] [] _ rfl lk_RX2_76 (by decide +kernel) (rfl) rfl rfl rfl (Nat.le_of_ble_eq_true rfl) (c_X4_take X3 J 34 12 136 12 (ab A) ⟨rfl, rfl, by decide⟩ ⟨rfl, rfl, by decide⟩ (show X3 136 1 = nI (ab A) from by rw [oa _ (by decide) (by decide), zz_cs_ne (by decide), zz_cs_ne (by decide), i2 _ (by omega)]; exact hC.1.2.2.2.2.2.2.1) hW.1.2.2.2 (by decide) hW.1.2.2.2) ?_
  rintro _ _ ⟨rfl, rfl⟩
  generalize hgb : zz_sr X3 34 (zz_mix (X3 (136 + 1)) (X3 (34 + 1)) ((ab A))) ((ab A)) = X4
  have eb : RE X4 34 X3 136 := by rw [← hgb]; exact RE_sr (show X3 136 1 = nI (ab A) from by rw [oa _ (by decide) (by decide), zz_cs_ne (by decide), zz_cs_ne (by decide), i2 _ (by omega)]; exact hC.1.2.2.2.2.2.2.1) hW.1.2.2.2
  have ob9 : ∀ c, c ≠ 34 → c ≠ 35 → X4 c = X3 c := fun c h1 h2 => by rw [← hgb]; exact zz_sr_o h1 h2
  show Ev _ _ _ _ _ 83 [some (.ref 3), some (.ref 105), none] [] (zz_SH, X4, J) _
  have hfin : ∀ c, (c < 30 ∨ 35 < c) → X4 c = I2 c := fun c h => by rw [ob9 c (by omega) (by omega), oa c (by omega) (by omega), zz_cs_ne (by omega), zz_cs_ne (by omega)]
  have hCR : CR 3 X4 A := by
    refine CR_take hC hW ?_ ?_ ?_ ?_ ?_ ?_ ?_ ?_
    · rw [hfin _ (by omega), t3.2 10 (by decide), p3.1]
    · rw [hfin _ (by omega), t3.1, p2 _ (by omega) (by omega) (by omega)]
    · intro p hp
      obtain ⟨b1, b2, b3⟩ := p1 p hp
      have z : ∀ c, (c = 6 ∨ (36 ≤ c ∧ c ≤ 83)) → X4 c = I1 c := fun c h => (hfin c (by omega)).trans (t2 c (by omega) (by omega) (by omega) (by omega))
      exact ⟨by rw [z _ (by omega)]; exact b1, b2.fr (z _ (by omega)) (z _ (by omega)) rfl rfl, b3.fr (z _ (by omega)) (z _ (by omega)) rfl rfl⟩
    · intro s hs
      obtain ⟨b1, b2, b3⟩ := t1 s hs
      have z : ∀ c, (105 ≤ c ∧ c ≤ 205) → I c = I1 c := fun c h => (p2 c (by omega) (by omega) (by omega)).symm
      exact ⟨b1.fr (hfin _ (by omega)) (hfin _ (by omega)) (z _ (by omega)) (z _ (by omega)), fun p hp => by rw [hfin _ (by omega), z _ (by omega)]; exact b2 p hp, fun t ht => by rw [hfin _ (by omega), z _ (by omega)]; exact b3 t ht⟩
    · intro r hr
      show X4 30 r = I 132 r
      rw [ob9 _ (by decide) (by decide), oa _ (by decide) (by decide), zz_cs_ne (by decide), zz_cs_eq, hh5 r hr, i2 _ (by omega)]
    · intro w hw
      show X4 31 w = I 133 w
      rw [ob9 _ (by decide) (by decide), oa _ (by decide) (by decide), zz_cs_eq, hh6 w hw, zz_cs_ne (by decide), i2 _ (by omega)]
    · exact ea.fr (ob9 _ (by decide) (by decide)) (ob9 _ (by decide) (by decide)) (by rw [zz_cs_ne (by decide), zz_cs_ne (by decide), i2 _ (by omega)]) (by rw [zz_cs_ne (by decide), zz_cs_ne (by decide), i2 _ (by omega)])
    · exact eb.fr rfl rfl (by rw [oa _ (by decide) (by decide), zz_cs_ne (by decide), zz_cs_ne (by decide), i2 _ (by omega)]) (by rw [oa _ (by decide) (by decide), zz_cs_ne (by decide), zz_cs_ne (by decide), i2 _ (by omega)])
  exact Ev.vret rfl (by decide +kernel) (⟨rfl, X4, hCR, fun c h => (hfin c (by omega)).trans (i2 c h), rfl⟩)

set_option maxRecDepth 100000 in
set_option maxHeartbeats 4000000 in
theorem l_tkr_3_206 {sc : Nat × (Nat → Int32)} {d : Nat} (Y : Nat → Nat → Int32) (J : Nat → Nat → Int64) (Q : Option Value → zz_St → Prop) (hout : ∀ h : Nat → Int32, (∀ j, j < 5 → h j = Y 233 j) → Ev sc (d + 4) 0 0 mX2_take 35 [some (.ref 3), some (.ref 206), none] [] (zz_SH, zz_cs Y 30 h, J) Q) : ∀ (μ : Nat) (t : Nat) (h : Nat → Int32), 5 - t < μ → (t ≤ 5) → (∀ j, j < t → h j = Y 233 j) →  Ev sc (d + 4) 0 0 mX2_take 12 [some (.ref 3), some (.ref 206), some (.int (nI t))] [] (zz_SH, zz_cs Y 30 h, J) (Q) := by
  intro μ
  induction μ with
  | zero => intro t h hμ; exact absurd hμ (Nat.not_lt_zero _)
  | succ μ ih =>
    intro t h hμ ht hh
    refine Ev.run [(.iload_n 2, 1), (.iconst 5, 1)] (pc' := 14) (L' := [some (.ref 3), some (.ref 206), some (.int (nI t))]) (S' := [.int (nI 5), .int (nI t)]) rfl (by decide +kernel) rfl ?_
    refine Ev.icmp_ge (off := 21) (tgt := 35) (by decide +kernel) (by decide) (fun h14 => ?_) (fun h14 => ?_)
    · have h14 : t ≥ 5 := zz_bG_t (by omega) (by omega) h14
      have hte : t = 5 := by omega
      refine Ev.weakL (L' := [some (.ref 3), some (.ref 206), none]) ⟨rfl, rfl, trivial⟩ ?_
      exact hout h (fun j hj => hh j (by omega))
    · have h14 : t < 5 := zz_bG_f (by omega) (by omega) h14
      refine Ev.run [(.aload_n 0, 1), (.getfield 35, 3), (.iload_n 2, 1), (.aload_n 1, 1), (.getfield 35, 3), (.iload_n 2, 1)] (pc' := 27) (L' := [some (.ref 3), some (.ref 206), some (.int (nI t))]) (S' := [.int (nI t), .ref 233, .int (nI t), .ref 30]) rfl (by decide +kernel) rfl ?_
      refine Ev.iald t (by decide +kernel) (rfl) (rfl) (by omega) (by first | decide | omega) ?_
      refine Ev.iast t (by decide +kernel) (rfl) (rfl) (by omega) (by first | decide | omega) ?_
      dsimp only
      refine Ev.run [(.iinc 2 1, 3)] (pc' := 32) (L' := [some (.ref 3), some (.ref 206), some (.int (nI t + 1))]) (S' := []) rfl (by decide +kernel) rfl ?_
      rw [nI_1 t]
      refine Ev.goto (off := (-20)) (tgt := 12) (by decide +kernel) (by decide) ?_
      rw [zz_cs_ne (x := 233) (by decide), zz_cs_up]
      exact ih (t + 1) _ (by omega) (by omega) (fun j hj => by by_cases e : j = t; rw [e, zz_ups]; rw [zz_upn e]; exact hh j (by omega))

set_option maxRecDepth 100000 in
set_option maxHeartbeats 4000000 in
theorem l_tkm_3_206 {sc : Nat × (Nat → Int32)} {d : Nat} (Y : Nat → Nat → Int32) (J : Nat → Nat → Int64) (Q : Option Value → zz_St → Prop) (hout : ∀ h : Nat → Int32, (∀ j, j < 16 → h j = Y 234 j) → Ev sc (d + 4) 0 0 mX2_take 61 [some (.ref 3), some (.ref 206), none] [] (zz_SH, zz_cs Y 31 h, J) Q) : ∀ (μ : Nat) (t : Nat) (h : Nat → Int32), 16 - t < μ → (t ≤ 16) → (∀ j, j < t → h j = Y 234 j) →  Ev sc (d + 4) 0 0 mX2_take 37 [some (.ref 3), some (.ref 206), some (.int (nI t))] [] (zz_SH, zz_cs Y 31 h, J) (Q) := by
  intro μ
  induction μ with
  | zero => intro t h hμ; exact absurd hμ (Nat.not_lt_zero _)
  | succ μ ih =>
    intro t h hμ ht hh
    refine Ev.run [(.iload_n 2, 1), (.bipush 16, 2)] (pc' := 40) (L' := [some (.ref 3), some (.ref 206), some (.int (nI t))]) (S' := [.int (nI 16), .int (nI t)]) rfl (by decide +kernel) rfl ?_
    refine Ev.icmp_ge (off := 21) (tgt := 61) (by decide +kernel) (by decide) (fun h40 => ?_) (fun h40 => ?_)
    · have h40 : t ≥ 16 := zz_bG_t (by omega) (by omega) h40
      have hte : t = 16 := by omega
      refine Ev.weakL (L' := [some (.ref 3), some (.ref 206), none]) ⟨rfl, rfl, trivial⟩ ?_
      exact hout h (fun j hj => hh j (by omega))
    · have h40 : t < 16 := zz_bG_f (by omega) (by omega) h40
      refine Ev.run [(.aload_n 0, 1), (.getfield 38, 3), (.iload_n 2, 1), (.aload_n 1, 1), (.getfield 38, 3), (.iload_n 2, 1)] (pc' := 53) (L' := [some (.ref 3), some (.ref 206), some (.int (nI t))]) (S' := [.int (nI t), .ref 234, .int (nI t), .ref 31]) rfl (by decide +kernel) rfl ?_
      refine Ev.iald t (by decide +kernel) (rfl) (rfl) (by omega) (by first | decide | omega) ?_
      refine Ev.iast t (by decide +kernel) (rfl) (rfl) (by omega) (by first | decide | omega) ?_
      dsimp only
      refine Ev.run [(.iinc 2 1, 3)] (pc' := 58) (L' := [some (.ref 3), some (.ref 206), some (.int (nI t + 1))]) (S' := []) rfl (by decide +kernel) rfl ?_
      rw [nI_1 t]
      refine Ev.goto (off := (-21)) (tgt := 37) (by decide +kernel) (by decide) ?_
      rw [zz_cs_ne (x := 234) (by decide), zz_cs_up]
      exact ih (t + 1) _ (by omega) (by omega) (fun j hj => by by_cases e : j = t; rw [e, zz_ups]; rw [zz_upn e]; exact hh j (by omega))

set_option maxRecDepth 100000 in
set_option maxHeartbeats 4000000 in
theorem c_X2_take_3_206 {sc : Nat × (Nat → Int32)} {d : Nat} (I : Nat → Nat → Int32) (J : Nat → Nat → Int64) (A : zA) (hC : CR 206 I A) (hW : WF A) : EvM sc (d + 4) 0 0 mX2_take [.ref 3, .ref 206] (zz_SH, I, J) (fun r σ => r = none ∧ ∃ I' : Nat → Nat → Int32, CR 3 I' A ∧ (∀ c, (c < 3 ∨ 103 < c) → I' c = I c) ∧ σ = (zz_SH, I', J)) := by
  refine EvM.of (by decide) rfl (Nat.le_of_ble_eq_true rfl) ?_
  show Ev _ _ _ _ _ 0 [some (.ref 3), some (.ref 206), none] [] (zz_SH, I, J) _
  refine Ev.run [(.aload_n 0, 1), (.aload_n 1, 1)] (pc' := 2) (L' := [some (.ref 3), some (.ref 206), none]) (S' := [.ref 206, .ref 3]) rfl (by decide +kernel) rfl ?_
  refine Ev.callV0 mX2_takePairs [.ref 206] [] _ rfl lk_RX2_69 (by decide +kernel) (rfl) rfl rfl rfl (Nat.le_of_ble_eq_true rfl) (c_tp_3_206 I J hC.2.2) ?_
  rintro _ _ ⟨rfl, I1, p1, p2, p3, rfl⟩
  have hZ1 : CZ 206 I1 := hC.2.2.fr (fun c h1 h2 => p2 c (by omega) (by omega) (by omega))
  show Ev _ _ _ _ _ 5 [some (.ref 3), some (.ref 206), none] [] (zz_SH, I1, J) _
  refine Ev.run [(.aload_n 0, 1), (.aload_n 1, 1)] (pc' := 7) (L' := [some (.ref 3), some (.ref 206), none]) (S' := [.ref 206, .ref 3]) rfl (by decide +kernel) rfl ?_
  refine Ev.callV0 mX2_takeText [.ref 206] [] _ rfl lk_RX2_73 (by decide +kernel) (rfl) rfl rfl rfl (Nat.le_of_ble_eq_true rfl) (c_tt_3_206 I1 J hZ1) ?_
  rintro _ _ ⟨rfl, I2, t1, t2, t3, rfl⟩
  have i2 : ∀ c, (c < 3 ∨ 103 < c) → I2 c = I c := fun c h => (t2 c (by omega) (by omega) (by omega) (by omega)).trans (p2 c (by omega) (by omega) (by omega))
  show Ev _ _ _ _ _ 10 [some (.ref 3), some (.ref 206), none] [] (zz_SH, I2, J) _
  refine Ev.run [(.iconst 0, 1), (.istore_n 2, 1)] (pc' := 12) (L' := [some (.ref 3), some (.ref 206), some (.int (nI 0))]) (S' := []) rfl (by decide +kernel) rfl ?_
  rw [← zz_cs_id I2 30]
  refine l_tkr_3_206 I2 J _ ?_ 6 0 (I2 30) (by omega) (by omega) (fun j hj => absurd hj (Nat.not_lt_zero j))
  intro h5 hh5
  show Ev _ _ _ _ _ 35 [some (.ref 3), some (.ref 206), none] [] (zz_SH, zz_cs I2 30 h5, J) _
  refine Ev.run [(.iconst 0, 1), (.istore_n 2, 1)] (pc' := 37) (L' := [some (.ref 3), some (.ref 206), some (.int (nI 0))]) (S' := []) rfl (by decide +kernel) rfl ?_
  rw [← zz_cs_id (zz_cs I2 30 h5) 31]
  refine l_tkm_3_206 (zz_cs I2 30 h5) J _ ?_ 17 0 (zz_cs I2 30 h5 31) (by omega) (by omega) (fun j hj => absurd hj (Nat.not_lt_zero j))
  intro h6 hh6
  show Ev _ _ _ _ _ 61 [some (.ref 3), some (.ref 206), none] [] (zz_SH, zz_cs (zz_cs I2 30 h5) 31 h6, J) _
  refine Ev.run [(.aload_n 0, 1), (.getfield 44, 3), (.aload_n 1, 1), (.getfield 44, 3)] (pc' := 69) (L' := [some (.ref 3), some (.ref 206), none]) (S' := [.ref 235, .ref 32]) rfl (by decide +kernel) rfl ?_
  refine Ev.callV0 mX4_take [.ref 235] [] _ rfl lk_RX2_76 (by decide +kernel) (rfl) rfl rfl rfl (Nat.le_of_ble_eq_true rfl) (c_X4_take (zz_cs (zz_cs I2 30 h5) 31 h6) J 32 12 235 12 (aa A) ⟨rfl, rfl, by decide⟩ ⟨rfl, rfl, by decide⟩ (show (zz_cs (zz_cs I2 30 h5) 31 h6) 235 1 = nI (aa A) from by rw [zz_cs_ne (by decide), zz_cs_ne (by decide), i2 _ (by omega)]; exact hC.1.2.2.2.2.2.1.1) hW.1.2.2.1 (by decide) hW.1.2.2.1) ?_
  rintro _ _ ⟨rfl, rfl⟩
  generalize hga : zz_sr (zz_cs (zz_cs I2 30 h5) 31 h6) 32 (zz_mix ((zz_cs (zz_cs I2 30 h5) 31 h6) (235 + 1)) ((zz_cs (zz_cs I2 30 h5) 31 h6) (32 + 1)) ((aa A))) ((aa A)) = X3
  have ea : RE X3 32 (zz_cs (zz_cs I2 30 h5) 31 h6) 235 := by rw [← hga]; exact RE_sr (show (zz_cs (zz_cs I2 30 h5) 31 h6) 235 1 = nI (aa A) from by rw [zz_cs_ne (by decide), zz_cs_ne (by decide), i2 _ (by omega)]; exact hC.1.2.2.2.2.2.1.1) hW.1.2.2.1
  have oa : ∀ c, c ≠ 32 → c ≠ 33 → X3 c = (zz_cs (zz_cs I2 30 h5) 31 h6) c := fun c h1 h2 => by rw [← hga]; exact zz_sr_o h1 h2
  show Ev _ _ _ _ _ 72 [some (.ref 3), some (.ref 206), none] [] (zz_SH, X3, J) _
  refine Ev.run [(.aload_n 0, 1), (.getfield 48, 3), (.aload_n 1, 1), (.getfield 48, 3)] (pc' := 80) (L' := [some (.ref 3), some (.ref 206), none]) (S' := [.ref 237, .ref 34]) rfl (by decide +kernel) rfl ?_
  refine Ev.callV0 mX4_take [.ref 237] [] _ rfl lk_RX2_76 (by decide +kernel) (rfl) rfl rfl rfl (Nat.le_of_ble_eq_true rfl) (c_X4_take X3 J 34 12 237 12 (ab A) ⟨rfl, rfl, by decide⟩ ⟨rfl, rfl, by decide⟩ (show X3 237 1 = nI (ab A) from by rw [oa _ (by decide) (by decide), zz_cs_ne (by decide), zz_cs_ne (by decide), i2 _ (by omega)]; exact hC.1.2.2.2.2.2.2.1) hW.1.2.2.2 (by decide) hW.1.2.2.2) ?_
  rintro _ _ ⟨rfl, rfl⟩
  generalize hgb : zz_sr X3 34 (zz_mix (X3 (237 + 1)) (X3 (34 + 1)) ((ab A))) ((ab A)) = X4
  have eb : RE X4 34 X3 237 := by rw [← hgb]; exact RE_sr (show X3 237 1 = nI (ab A) from by rw [oa _ (by decide) (by decide), zz_cs_ne (by decide), zz_cs_ne (by decide), i2 _ (by omega)]; exact hC.1.2.2.2.2.2.2.1) hW.1.2.2.2
  have ob9 : ∀ c, c ≠ 34 → c ≠ 35 → X4 c = X3 c := fun c h1 h2 => by rw [← hgb]; exact zz_sr_o h1 h2
  show Ev _ _ _ _ _ 83 [some (.ref 3), some (.ref 206), none] [] (zz_SH, X4, J) _
  have hfin : ∀ c, (c < 30 ∨ 35 < c) → X4 c = I2 c := fun c h => by rw [ob9 c (by omega) (by omega), oa c (by omega) (by omega), zz_cs_ne (by omega), zz_cs_ne (by omega)]
  have hCR : CR 3 X4 A := by
    refine CR_take hC hW ?_ ?_ ?_ ?_ ?_ ?_ ?_ ?_
    · rw [hfin _ (by omega), t3.2 10 (by decide), p3.1]
    · rw [hfin _ (by omega), t3.1, p2 _ (by omega) (by omega) (by omega)]
    · intro p hp
      obtain ⟨b1, b2, b3⟩ := p1 p hp
      have z : ∀ c, (c = 6 ∨ (36 ≤ c ∧ c ≤ 83)) → X4 c = I1 c := fun c h => (hfin c (by omega)).trans (t2 c (by omega) (by omega) (by omega) (by omega))
      exact ⟨by rw [z _ (by omega)]; exact b1, b2.fr (z _ (by omega)) (z _ (by omega)) rfl rfl, b3.fr (z _ (by omega)) (z _ (by omega)) rfl rfl⟩
    · intro s hs
      obtain ⟨b1, b2, b3⟩ := t1 s hs
      have z : ∀ c, (206 ≤ c ∧ c ≤ 306) → I c = I1 c := fun c h => (p2 c (by omega) (by omega) (by omega)).symm
      exact ⟨b1.fr (hfin _ (by omega)) (hfin _ (by omega)) (z _ (by omega)) (z _ (by omega)), fun p hp => by rw [hfin _ (by omega), z _ (by omega)]; exact b2 p hp, fun t ht => by rw [hfin _ (by omega), z _ (by omega)]; exact b3 t ht⟩
    · intro r hr
      show X4 30 r = I 233 r
      rw [ob9 _ (by decide) (by decide), oa _ (by decide) (by decide), zz_cs_ne (by decide), zz_cs_eq, hh5 r hr, i2 _ (by omega)]
    · intro w hw
      show X4 31 w = I 234 w
      rw [ob9 _ (by decide) (by decide), oa _ (by decide) (by decide), zz_cs_eq, hh6 w hw, zz_cs_ne (by decide), i2 _ (by omega)]
    · exact ea.fr (ob9 _ (by decide) (by decide)) (ob9 _ (by decide) (by decide)) (by rw [zz_cs_ne (by decide), zz_cs_ne (by decide), i2 _ (by omega)]) (by rw [zz_cs_ne (by decide), zz_cs_ne (by decide), i2 _ (by omega)])
    · exact eb.fr rfl rfl (by rw [oa _ (by decide) (by decide), zz_cs_ne (by decide), zz_cs_ne (by decide), i2 _ (by omega)]) (by rw [oa _ (by decide) (by decide), zz_cs_ne (by decide), zz_cs_ne (by decide), i2 _ (by omega)])
  exact Ev.vret rfl (by decide +kernel) (⟨rfl, X4, hCR, fun c h => (hfin c (by omega)).trans (i2 c h), rfl⟩)

set_option maxRecDepth 100000 in
set_option maxHeartbeats 4000000 in
theorem c_X6_image_o {sc : Nat × (Nat → Int32)} {d : Nat} (I : Nat → Nat → Int32) (J : Nat → Nat → Int64) (x : Int32) (hx : ¬ zz_ix x 2) : EvM sc (d + 5) 0 0 mX6_image [.ref 0, .int x] (zz_SH, I, J) (zz_is (.int (-2)) (zz_SH, I, J)) := by
  refine EvM.of (by decide) rfl (Nat.le_of_ble_eq_true rfl) ?_
  show Ev _ _ _ _ _ 0 [some (.ref 0), some (.int x)] [] (zz_SH, I, J) _
  refine Ev.run [(.iload_n 1, 1)] (pc' := 1) (L' := [some (.ref 0), some (.int x)]) (S' := [.int x]) rfl (by decide +kernel) rfl ?_
  refine Ev.if_lt (off := 8) (tgt := 9) (by decide +kernel) (by decide) (fun h1 => ?_) (fun h1 => ?_)
  · refine Ev.run [(.bipush (-2), 2)] (pc' := 11) (L' := [some (.ref 0), some (.int x)]) (S' := [.int ((-2))]) rfl (by decide +kernel) rfl ?_
    exact Ev.iret rfl (by decide +kernel) (⟨rfl, rfl⟩)
  · refine Ev.run [(.iload_n 1, 1), (.iconst 2, 1)] (pc' := 6) (L' := [some (.ref 0), some (.int x)]) (S' := [.int (nI 2), .int x]) rfl (by decide +kernel) rfl ?_
    refine Ev.icmp_lt (off := 6) (tgt := 12) (by decide +kernel) (by decide) (fun h6 => ?_) (fun h6 => ?_)
    · exact absurd ((zz_cix (by decide)).mpr ⟨h1, Int32.not_le.mpr h6⟩) hx
    · refine Ev.run [(.bipush (-2), 2)] (pc' := 11) (L' := [some (.ref 0), some (.int x)]) (S' := [.int ((-2))]) rfl (by decide +kernel) rfl ?_
      exact Ev.iret rfl (by decide +kernel) (⟨rfl, rfl⟩)

set_option maxRecDepth 100000 in
set_option maxHeartbeats 4000000 in
theorem c_X6_restore_o {sc : Nat × (Nat → Int32)} {d : Nat} (I : Nat → Nat → Int32) (J : Nat → Nat → Int64) (x : Int32) (hx : ¬ zz_ix x 2) : EvM sc (d + 5) 0 0 mX6_restore [.ref 0, .int x] (zz_SH, I, J) (zz_is (.int (-2)) (zz_SH, I, J)) := by
  refine EvM.of (by decide) rfl (Nat.le_of_ble_eq_true rfl) ?_
  show Ev _ _ _ _ _ 0 [some (.ref 0), some (.int x)] [] (zz_SH, I, J) _
  refine Ev.run [(.iload_n 1, 1)] (pc' := 1) (L' := [some (.ref 0), some (.int x)]) (S' := [.int x]) rfl (by decide +kernel) rfl ?_
  refine Ev.if_lt (off := 8) (tgt := 9) (by decide +kernel) (by decide) (fun h1 => ?_) (fun h1 => ?_)
  · refine Ev.run [(.bipush (-2), 2)] (pc' := 11) (L' := [some (.ref 0), some (.int x)]) (S' := [.int ((-2))]) rfl (by decide +kernel) rfl ?_
    exact Ev.iret rfl (by decide +kernel) (⟨rfl, rfl⟩)
  · refine Ev.run [(.iload_n 1, 1), (.iconst 2, 1)] (pc' := 6) (L' := [some (.ref 0), some (.int x)]) (S' := [.int (nI 2), .int x]) rfl (by decide +kernel) rfl ?_
    refine Ev.icmp_lt (off := 6) (tgt := 12) (by decide +kernel) (by decide) (fun h6 => ?_) (fun h6 => ?_)
    · exact absurd ((zz_cix (by decide)).mpr ⟨h1, Int32.not_le.mpr h6⟩) hx
    · refine Ev.run [(.bipush (-2), 2)] (pc' := 11) (L' := [some (.ref 0), some (.int x)]) (S' := [.int ((-2))]) rfl (by decide +kernel) rfl ?_
      exact Ev.iret rfl (by decide +kernel) (⟨rfl, rfl⟩)

set_option maxRecDepth 100000 in
set_option maxHeartbeats 4000000 in
theorem c_X6_image_0 {sc : Nat × (Nat → Int32)} {d : Nat} (I : Nat → Nat → Int32) (J : Nat → Nat → Int64) (A : zA) (hC : CR 3 I A) (hW : WF A) : EvM sc (d + 5) 0 0 mX6_image [.ref 0, .int (nI 0)] (zz_SH, I, J) (fun r σ => r = some (.int (nI 1)) ∧ ∃ I' : Nat → Nat → Int32, CR 105 I' A ∧ (∀ c, (c < 105 ∨ 205 < c) → c ≠ 307 → I' c = I c) ∧ (I' 307 0 = nI 1 ∧ ∀ j, j ≠ 0 → I' 307 j = I 307 j) ∧ σ = (zz_SH, I', J)) := by
  refine EvM.of (by decide) rfl (Nat.le_of_ble_eq_true rfl) ?_
  show Ev _ _ _ _ _ 0 [some (.ref 0), some (.int (nI 0))] [] (zz_SH, I, J) _
  refine Ev.run [(.iload_n 1, 1)] (pc' := 1) (L' := [some (.ref 0), some (.int (nI 0))]) (S' := [.int (nI 0)]) rfl (by decide +kernel) rfl ?_
  refine Ev.if_lt (off := 8) (tgt := 9) (by decide +kernel) (by decide) (fun h1 => absurd h1 (by decide)) (fun h1 => ?_)
  refine Ev.run [(.iload_n 1, 1), (.iconst 2, 1)] (pc' := 6) (L' := [some (.ref 0), some (.int (nI 0))]) (S' := [.int (nI 2), .int (nI 0)]) rfl (by decide +kernel) rfl ?_
  refine Ev.icmp_lt (off := 6) (tgt := 12) (by decide +kernel) (by decide) (fun h6 => ?_) (fun h6 => absurd h6 (by decide))
  refine Ev.run [(.aload_n 0, 1), (.getfield 25, 3), (.iload_n 1, 1)] (pc' := 17) (L' := [some (.ref 0), some (.int (nI 0))]) (S' := [.int (nI 0), .ref 104]) rfl (by decide +kernel) rfl ?_
  refine Ev.aald 0 (by decide +kernel) rfl (by decide) rfl (by decide) (by decide) rfl ?_
  refine Ev.run [(.aload_n 0, 1), (.getfield 21, 3)] (pc' := 22) (L' := [some (.ref 0), some (.int (nI 0))]) (S' := [.ref 3, .ref 105]) rfl (by decide +kernel) rfl ?_
  refine Ev.callV0 mX2_take [.ref 3] [] _ rfl lk_RX6_224 (by decide +kernel) (rfl) rfl rfl rfl (Nat.le_of_ble_eq_true rfl) (c_X2_take_105_3 I J A hC hW) ?_
  rintro _ _ ⟨rfl, I1, q1, q2, rfl⟩
  show Ev _ _ _ _ _ 25 [some (.ref 0), some (.int (nI 0))] [] (zz_SH, I1, J) _
  refine Ev.run [(.aload_n 0, 1), (.getfield 29, 3), (.iload_n 1, 1), (.iconst 1, 1)] (pc' := 31) (L' := [some (.ref 0), some (.int (nI 0))]) (S' := [.int (nI 1), .int (nI 0), .ref 307]) rfl (by decide +kernel) rfl ?_
  refine Ev.zast 0 (by decide +kernel) (rfl) (rfl) (by omega) (by first | decide | omega) ?_
  dsimp only
  refine Ev.run [(.iconst 1, 1)] (pc' := 33) (L' := [some (.ref 0), some (.int (nI 0))]) (S' := [.int (nI 1)]) rfl (by decide +kernel) rfl ?_
  exact Ev.iret rfl (by decide +kernel) (⟨rfl, _, q1.fr hW (fun c h1 h2 => zz_up_ne (by omega)), fun c h1 h2 => by rw [zz_up_ne h2]; exact q2 c h1, ⟨by rw [zz_up_eq, zz_ups]; decide, fun j hj => by rw [zz_up_eq, zz_upn hj, q2 _ (by omega)]⟩, rfl⟩)

set_option maxRecDepth 100000 in
set_option maxHeartbeats 4000000 in
theorem c_X6_restore_s0 {sc : Nat × (Nat → Int32)} {d : Nat} (I : Nat → Nat → Int32) (J : Nat → Nat → Int64) (hk : I 307 0 = nI 0) : EvM sc (d + 5) 0 0 mX6_restore [.ref 0, .int (nI 0)] (zz_SH, I, J) (zz_is (.int (-3)) (zz_SH, I, J)) := by
  refine EvM.of (by decide) rfl (Nat.le_of_ble_eq_true rfl) ?_
  show Ev _ _ _ _ _ 0 [some (.ref 0), some (.int (nI 0))] [] (zz_SH, I, J) _
  refine Ev.run [(.iload_n 1, 1)] (pc' := 1) (L' := [some (.ref 0), some (.int (nI 0))]) (S' := [.int (nI 0)]) rfl (by decide +kernel) rfl ?_
  refine Ev.if_lt (off := 8) (tgt := 9) (by decide +kernel) (by decide) (fun h1 => absurd h1 (by decide)) (fun h1 => ?_)
  refine Ev.run [(.iload_n 1, 1), (.iconst 2, 1)] (pc' := 6) (L' := [some (.ref 0), some (.int (nI 0))]) (S' := [.int (nI 2), .int (nI 0)]) rfl (by decide +kernel) rfl ?_
  refine Ev.icmp_lt (off := 6) (tgt := 12) (by decide +kernel) (by decide) (fun h6 => ?_) (fun h6 => absurd h6 (by decide))
  refine Ev.run [(.aload_n 0, 1), (.getfield 29, 3), (.iload_n 1, 1)] (pc' := 17) (L' := [some (.ref 0), some (.int (nI 0))]) (S' := [.int (nI 0), .ref 307]) rfl (by decide +kernel) rfl ?_
  refine Ev.zald 0 (by decide +kernel) (rfl) (rfl) (by omega) (by first | decide | omega) ?_
  dsimp only
  rw [hk]
  refine Ev.if_ne (off := 6) (tgt := 24) (by decide +kernel) (by decide) (fun h18 => absurd h18 (by decide)) (fun h18 => ?_)
  refine Ev.run [(.bipush (-3), 2)] (pc' := 23) (L' := [some (.ref 0), some (.int (nI 0))]) (S' := [.int ((-3))]) rfl (by decide +kernel) rfl ?_
  exact Ev.iret rfl (by decide +kernel) (⟨rfl, rfl⟩)

set_option maxRecDepth 100000 in
set_option maxHeartbeats 4000000 in
theorem c_X6_restore_k0 {sc : Nat × (Nat → Int32)} {d : Nat} (I : Nat → Nat → Int32) (J : Nat → Nat → Int64) (A : zA) (hC : CR 105 I A) (hW : WF A) (hk : I 307 0 = nI 1) : EvM sc (d + 5) 0 0 mX6_restore [.ref 0, .int (nI 0)] (zz_SH, I, J) (fun r σ => r = some (.int (nI 1)) ∧ ∃ I' : Nat → Nat → Int32, CR 3 I' A ∧ (∀ c, (c < 3 ∨ 103 < c) → I' c = I c) ∧ σ = (zz_SH, I', J)) := by
  refine EvM.of (by decide) rfl (Nat.le_of_ble_eq_true rfl) ?_
  show Ev _ _ _ _ _ 0 [some (.ref 0), some (.int (nI 0))] [] (zz_SH, I, J) _
  refine Ev.run [(.iload_n 1, 1)] (pc' := 1) (L' := [some (.ref 0), some (.int (nI 0))]) (S' := [.int (nI 0)]) rfl (by decide +kernel) rfl ?_
  refine Ev.if_lt (off := 8) (tgt := 9) (by decide +kernel) (by decide) (fun h1 => absurd h1 (by decide)) (fun h1 => ?_)
  refine Ev.run [(.iload_n 1, 1), (.iconst 2, 1)] (pc' := 6) (L' := [some (.ref 0), some (.int (nI 0))]) (S' := [.int (nI 2), .int (nI 0)]) rfl (by decide +kernel) rfl ?_
  refine Ev.icmp_lt (off := 6) (tgt := 12) (by decide +kernel) (by decide) (fun h6 => ?_) (fun h6 => absurd h6 (by decide))
  refine Ev.run [(.aload_n 0, 1), (.getfield 29, 3), (.iload_n 1, 1)] (pc' := 17) (L' := [some (.ref 0), some (.int (nI 0))]) (S' := [.int (nI 0), .ref 307]) rfl (by decide +kernel) rfl ?_
  refine Ev.zald 0 (by decide +kernel) (rfl) (rfl) (by omega) (by first | decide | omega) ?_
  dsimp only
  rw [hk]
  refine Ev.if_ne (off := 6) (tgt := 24) (by decide +kernel) (by decide) (fun h18 => ?_) (fun h18 => absurd h18 (by decide))
  refine Ev.run [(.aload_n 0, 1), (.getfield 21, 3), (.aload_n 0, 1), (.getfield 25, 3), (.iload_n 1, 1)] (pc' := 33) (L' := [some (.ref 0), some (.int (nI 0))]) (S' := [.int (nI 0), .ref 104, .ref 3]) rfl (by decide +kernel) rfl ?_
  refine Ev.aald 0 (by decide +kernel) rfl (by decide) rfl (by decide) (by decide) rfl ?_
  refine Ev.callV0 mX2_take [.ref 105] [] _ rfl lk_RX6_224 (by decide +kernel) (rfl) rfl rfl rfl (Nat.le_of_ble_eq_true rfl) (c_X2_take_3_105 I J A hC hW) ?_
  rintro _ _ ⟨rfl, I1, q1, q2, rfl⟩
  show Ev _ _ _ _ _ 37 [some (.ref 0), some (.int (nI 0))] [] (zz_SH, I1, J) _
  refine Ev.run [(.iconst 1, 1)] (pc' := 38) (L' := [some (.ref 0), some (.int (nI 0))]) (S' := [.int (nI 1)]) rfl (by decide +kernel) rfl ?_
  exact Ev.iret rfl (by decide +kernel) (⟨rfl, I1, q1, q2, rfl⟩)

set_option maxRecDepth 100000 in
set_option maxHeartbeats 4000000 in
theorem c_X6_image_1 {sc : Nat × (Nat → Int32)} {d : Nat} (I : Nat → Nat → Int32) (J : Nat → Nat → Int64) (A : zA) (hC : CR 3 I A) (hW : WF A) : EvM sc (d + 5) 0 0 mX6_image [.ref 0, .int (nI 1)] (zz_SH, I, J) (fun r σ => r = some (.int (nI 1)) ∧ ∃ I' : Nat → Nat → Int32, CR 206 I' A ∧ (∀ c, (c < 206 ∨ 306 < c) → c ≠ 307 → I' c = I c) ∧ (I' 307 1 = nI 1 ∧ ∀ j, j ≠ 1 → I' 307 j = I 307 j) ∧ σ = (zz_SH, I', J)) := by
  refine EvM.of (by decide) rfl (Nat.le_of_ble_eq_true rfl) ?_
  show Ev _ _ _ _ _ 0 [some (.ref 0), some (.int (nI 1))] [] (zz_SH, I, J) _
  refine Ev.run [(.iload_n 1, 1)] (pc' := 1) (L' := [some (.ref 0), some (.int (nI 1))]) (S' := [.int (nI 1)]) rfl (by decide +kernel) rfl ?_
  refine Ev.if_lt (off := 8) (tgt := 9) (by decide +kernel) (by decide) (fun h1 => absurd h1 (by decide)) (fun h1 => ?_)
  refine Ev.run [(.iload_n 1, 1), (.iconst 2, 1)] (pc' := 6) (L' := [some (.ref 0), some (.int (nI 1))]) (S' := [.int (nI 2), .int (nI 1)]) rfl (by decide +kernel) rfl ?_
  refine Ev.icmp_lt (off := 6) (tgt := 12) (by decide +kernel) (by decide) (fun h6 => ?_) (fun h6 => absurd h6 (by decide))
  refine Ev.run [(.aload_n 0, 1), (.getfield 25, 3), (.iload_n 1, 1)] (pc' := 17) (L' := [some (.ref 0), some (.int (nI 1))]) (S' := [.int (nI 1), .ref 104]) rfl (by decide +kernel) rfl ?_
  refine Ev.aald 1 (by decide +kernel) rfl (by decide) rfl (by decide) (by decide) rfl ?_
  refine Ev.run [(.aload_n 0, 1), (.getfield 21, 3)] (pc' := 22) (L' := [some (.ref 0), some (.int (nI 1))]) (S' := [.ref 3, .ref 206]) rfl (by decide +kernel) rfl ?_
  refine Ev.callV0 mX2_take [.ref 3] [] _ rfl lk_RX6_224 (by decide +kernel) (rfl) rfl rfl rfl (Nat.le_of_ble_eq_true rfl) (c_X2_take_206_3 I J A hC hW) ?_
  rintro _ _ ⟨rfl, I1, q1, q2, rfl⟩
  show Ev _ _ _ _ _ 25 [some (.ref 0), some (.int (nI 1))] [] (zz_SH, I1, J) _
  refine Ev.run [(.aload_n 0, 1), (.getfield 29, 3), (.iload_n 1, 1), (.iconst 1, 1)] (pc' := 31) (L' := [some (.ref 0), some (.int (nI 1))]) (S' := [.int (nI 1), .int (nI 1), .ref 307]) rfl (by decide +kernel) rfl ?_
  refine Ev.zast 1 (by decide +kernel) (rfl) (rfl) (by omega) (by first | decide | omega) ?_
  dsimp only
  refine Ev.run [(.iconst 1, 1)] (pc' := 33) (L' := [some (.ref 0), some (.int (nI 1))]) (S' := [.int (nI 1)]) rfl (by decide +kernel) rfl ?_
  exact Ev.iret rfl (by decide +kernel) (⟨rfl, _, q1.fr hW (fun c h1 h2 => zz_up_ne (by omega)), fun c h1 h2 => by rw [zz_up_ne h2]; exact q2 c h1, ⟨by rw [zz_up_eq, zz_ups]; decide, fun j hj => by rw [zz_up_eq, zz_upn hj, q2 _ (by omega)]⟩, rfl⟩)

set_option maxRecDepth 100000 in
set_option maxHeartbeats 4000000 in
theorem c_X6_restore_s1 {sc : Nat × (Nat → Int32)} {d : Nat} (I : Nat → Nat → Int32) (J : Nat → Nat → Int64) (hk : I 307 1 = nI 0) : EvM sc (d + 5) 0 0 mX6_restore [.ref 0, .int (nI 1)] (zz_SH, I, J) (zz_is (.int (-3)) (zz_SH, I, J)) := by
  refine EvM.of (by decide) rfl (Nat.le_of_ble_eq_true rfl) ?_
  show Ev _ _ _ _ _ 0 [some (.ref 0), some (.int (nI 1))] [] (zz_SH, I, J) _
  refine Ev.run [(.iload_n 1, 1)] (pc' := 1) (L' := [some (.ref 0), some (.int (nI 1))]) (S' := [.int (nI 1)]) rfl (by decide +kernel) rfl ?_
  refine Ev.if_lt (off := 8) (tgt := 9) (by decide +kernel) (by decide) (fun h1 => absurd h1 (by decide)) (fun h1 => ?_)
  refine Ev.run [(.iload_n 1, 1), (.iconst 2, 1)] (pc' := 6) (L' := [some (.ref 0), some (.int (nI 1))]) (S' := [.int (nI 2), .int (nI 1)]) rfl (by decide +kernel) rfl ?_
  refine Ev.icmp_lt (off := 6) (tgt := 12) (by decide +kernel) (by decide) (fun h6 => ?_) (fun h6 => absurd h6 (by decide))
  refine Ev.run [(.aload_n 0, 1), (.getfield 29, 3), (.iload_n 1, 1)] (pc' := 17) (L' := [some (.ref 0), some (.int (nI 1))]) (S' := [.int (nI 1), .ref 307]) rfl (by decide +kernel) rfl ?_
  refine Ev.zald 1 (by decide +kernel) (rfl) (rfl) (by omega) (by first | decide | omega) ?_
  dsimp only
  rw [hk]
  refine Ev.if_ne (off := 6) (tgt := 24) (by decide +kernel) (by decide) (fun h18 => absurd h18 (by decide)) (fun h18 => ?_)
  refine Ev.run [(.bipush (-3), 2)] (pc' := 23) (L' := [some (.ref 0), some (.int (nI 1))]) (S' := [.int ((-3))]) rfl (by decide +kernel) rfl ?_
  exact Ev.iret rfl (by decide +kernel) (⟨rfl, rfl⟩)

set_option maxRecDepth 100000 in
set_option maxHeartbeats 4000000 in
theorem c_X6_restore_k1 {sc : Nat × (Nat → Int32)} {d : Nat} (I : Nat → Nat → Int32) (J : Nat → Nat → Int64) (A : zA) (hC : CR 206 I A) (hW : WF A) (hk : I 307 1 = nI 1) : EvM sc (d + 5) 0 0 mX6_restore [.ref 0, .int (nI 1)] (zz_SH, I, J) (fun r σ => r = some (.int (nI 1)) ∧ ∃ I' : Nat → Nat → Int32, CR 3 I' A ∧ (∀ c, (c < 3 ∨ 103 < c) → I' c = I c) ∧ σ = (zz_SH, I', J)) := by
  refine EvM.of (by decide) rfl (Nat.le_of_ble_eq_true rfl) ?_
  show Ev _ _ _ _ _ 0 [some (.ref 0), some (.int (nI 1))] [] (zz_SH, I, J) _
  refine Ev.run [(.iload_n 1, 1)] (pc' := 1) (L' := [some (.ref 0), some (.int (nI 1))]) (S' := [.int (nI 1)]) rfl (by decide +kernel) rfl ?_
  refine Ev.if_lt (off := 8) (tgt := 9) (by decide +kernel) (by decide) (fun h1 => absurd h1 (by decide)) (fun h1 => ?_)
  refine Ev.run [(.iload_n 1, 1), (.iconst 2, 1)] (pc' := 6) (L' := [some (.ref 0), some (.int (nI 1))]) (S' := [.int (nI 2), .int (nI 1)]) rfl (by decide +kernel) rfl ?_
  refine Ev.icmp_lt (off := 6) (tgt := 12) (by decide +kernel) (by decide) (fun h6 => ?_) (fun h6 => absurd h6 (by decide))
  refine Ev.run [(.aload_n 0, 1), (.getfield 29, 3), (.iload_n 1, 1)] (pc' := 17) (L' := [some (.ref 0), some (.int (nI 1))]) (S' := [.int (nI 1), .ref 307]) rfl (by decide +kernel) rfl ?_
  refine Ev.zald 1 (by decide +kernel) (rfl) (rfl) (by omega) (by first | decide | omega) ?_
  dsimp only
  rw [hk]
  refine Ev.if_ne (off := 6) (tgt := 24) (by decide +kernel) (by decide) (fun h18 => ?_) (fun h18 => absurd h18 (by decide))
  refine Ev.run [(.aload_n 0, 1), (.getfield 21, 3), (.aload_n 0, 1), (.getfield 25, 3), (.iload_n 1, 1)] (pc' := 33) (L' := [some (.ref 0), some (.int (nI 1))]) (S' := [.int (nI 1), .ref 104, .ref 3]) rfl (by decide +kernel) rfl ?_
  refine Ev.aald 1 (by decide +kernel) rfl (by decide) rfl (by decide) (by decide) rfl ?_
  refine Ev.callV0 mX2_take [.ref 206] [] _ rfl lk_RX6_224 (by decide +kernel) (rfl) rfl rfl rfl (Nat.le_of_ble_eq_true rfl) (c_X2_take_3_206 I J A hC hW) ?_
  rintro _ _ ⟨rfl, I1, q1, q2, rfl⟩
  show Ev _ _ _ _ _ 37 [some (.ref 0), some (.int (nI 1))] [] (zz_SH, I1, J) _
  refine Ev.run [(.iconst 1, 1)] (pc' := 38) (L' := [some (.ref 0), some (.int (nI 1))]) (S' := [.int (nI 1)]) rfl (by decide +kernel) rfl ?_
  exact Ev.iret rfl (by decide +kernel) (⟨rfl, I1, q1, q2, rfl⟩)
