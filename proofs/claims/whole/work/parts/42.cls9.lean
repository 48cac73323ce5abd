/-! ===== the class: a memory takes another ===== -/
def RE (I' : Nat → Nat → Int32) (k : Nat) (I : Nat → Nat → Int32) (q : Nat) : Prop := I' k 1 = I q 1 ∧ ∀ s, s ≤ 12 → I q 1 = nI s → ∀ j, j < s → I' (k + 1) j = I (q + 1) j
theorem RE_sr {I F : Nat → Nat → Int32} {k q s : Nat} (hs : I q 1 = nI s) (hs2 : s ≤ 12) : RE (zz_sr I k (zz_mix (I (q + 1)) (F (k + 1)) s) s) k I q := by
  refine ⟨by rw [zz_sr_s, hs], fun t ht e j hj => ?_⟩
  have e2 : s = t := (nI_eq (by omega) (by omega)).mp (hs.symm.trans e)
  rw [zz_sr_f, zz_mix_in (by omega)]
theorem RE.fr {I I' I1 I2 : Nat → Nat → Int32} {k q : Nat} (h : RE I' k I q) (h1 : I1 k = I' k) (h2 : I1 (k + 1) = I' (k + 1)) (h3 : I2 q = I q) (h4 : I2 (q + 1) = I (q + 1)) : RE I1 k I2 q := ⟨by rw [h1, h3]; exact h.1, fun s hs e j hj => by rw [h2, h4]; exact h.2 s hs (by rw [← h3]; exact e) j hj⟩
theorem RE.rf {I I' : Nat → Nat → Int32} {k q s : Nat} {f : Nat → Nat} (h : RE I' k I q) (hs : s ≤ 12) (hf : zz_rf I q s f) : zz_rf I' k s f := ⟨h.1.trans hf.1, fun j hj => (h.2 s hs hf.1 j hj).trans (hf.2 j hj)⟩
def TP (B1 B2 : Nat) (I I' : Nat → Nat → Int32) (n : Nat) : Prop := ∀ p, p < n → I' (B1 + 3) p = I (B2 + 3) p ∧ RE I' (B1 + 33 + 4 * p) I (B2 + 33 + 4 * p) ∧ RE I' (B1 + 35 + 4 * p) I (B2 + 35 + 4 * p)
def TS (B1 B2 : Nat) (I I' : Nat → Nat → Int32) (s : Nat) : Prop := RE I' (B1 + 81 + 2 * s) I (B2 + 81 + 2 * s) ∧ (∀ p, p < 12 → I' (B1 + 6 + s) p = I (B2 + 6 + s) p) ∧ ∀ t, t < 10 → I' (B1 + 17 + s) t = I (B2 + 17 + s) t
theorem CR_take {B1 B2 : Nat} {I I' : Nat → Nat → Int32} {A : zA} (hC : CR B2 I A) (hW : WF A) (g1 : I' B1 10 = I B2 10) (g2 : I' B1 11 = I B2 11) (g3 : TP B1 B2 I I' 12) (g4 : ∀ s, s < 10 → TS B1 B2 I I' s) (g5 : ∀ r, r < 5 → I' (B1 + 27) r = I (B2 + 27) r) (g6 : ∀ w, w < 16 → I' (B1 + 28) w = I (B2 + 28) w) (g7 : RE I' (B1 + 29) I (B2 + 29)) (g8 : RE I' (B1 + 31) I (B2 + 31)) : CR B1 I' A := by
  obtain ⟨⟨⟨v1, v2⟩, v3, v4, v5, v6, v7, v8⟩, hT, hZ⟩ := hC
  have w1 := hW.1.1
  have w2 := hW.1.2.1
  refine ⟨⟨⟨g1.trans v1, g2.trans v2⟩, fun p hp => ?_, fun s hs => ?_, fun r hr => ?_, fun w hw => ?_, ?_, ?_⟩, fun s hs => ⟨fun p hp => ?_, fun t ht => ?_⟩, fun p hp => ⟨?_, ?_⟩, fun s hs => ?_⟩
  · obtain ⟨a1, a2, a3⟩ := v3 p hp
    obtain ⟨b1, b2, b3⟩ := g3 p (by omega)
    exact ⟨b1.trans a1, b2.rf (hW.2.1 p hp).1.2.1 a2, b3.rf (hW.2.1 p hp).1.2.2.2 a3⟩
  · exact (g4 s (by omega)).1.rf (hW.2.2.1 s hs).1.2 (v4 s hs)
  · exact (g5 r hr).trans (v5 r hr)
  · exact (g6 w hw).trans (v6 w hw)
  · exact g7.rf hW.1.2.2.1 v7
  · exact g8.rf hW.1.2.2.2 v8
  · exact ((g4 s (by omega)).2.1 p (by omega)).trans ((hT s hs).1 p hp)
  · exact ((g4 s (by omega)).2.2 t (by omega)).trans ((hT s hs).2 t ht)
  · obtain ⟨b1, b2, b3⟩ := g3 p hp
    rw [b2.1]; exact (hZ.1 p hp).1
  · obtain ⟨b1, b2, b3⟩ := g3 p hp
    rw [b3.1]; exact (hZ.1 p hp).2
  · rw [(g4 s hs).1.1]; exact hZ.2 s hs

set_option maxRecDepth 100000 in
set_option maxHeartbeats 4000000 in
theorem l_tp_105_3 {sc : Nat × (Nat → Int32)} {d : Nat} (I : Nat → Nat → Int32) (J : Nat → Nat → Int64) (hZ : CZ 3 I) : ∀ (μ : Nat) (p : Nat) (I1 : Nat → Nat → Int32), 12 - p < μ → (p ≤ 12) → (∀ c, (c < 138 ∨ 185 < c) → c ≠ 108 → I1 c = I c) → (TP 105 3 I I1 p) →  Ev sc (d + 3) 0 0 mX2_takePairs 2 [some (.ref 105), some (.ref 3), some (.int (nI p))] [] (zz_SH, I1, J) (fun r σ => r = none ∧ ∃ I' : Nat → Nat → Int32, TP 105 3 I I' 12 ∧ (∀ c, (c < 138 ∨ 185 < c) → c ≠ 108 → c ≠ 105 → I' c = I c) ∧ (I' 105 10 = I 3 10 ∧ ∀ j, j ≠ 10 → I' 105 j = I 105 j) ∧ σ = (zz_SH, I', J)) := by
  intro μ
  induction μ with
  | zero => intro p I1 hμ; exact absurd hμ (Nat.not_lt_zero _)
  | succ μ ih =>
    intro p I1 hμ hp f1 f2
    refine Ev.run [(.iload_n 2, 1), (.bipush 12, 2)] (pc' := 5) (L' := [some (.ref 105), some (.ref 3), some (.int (nI p))]) (S' := [.int (nI 12), .int (nI p)]) rfl (by decide +kernel) rfl ?_
    refine Ev.icmp_ge (off := 51) (tgt := 56) (by decide +kernel) (by decide) (fun h5 => ?_) (fun h5 => ?_)
    · have h5 : p ≥ 12 := zz_bG_t (by omega) (by omega) h5
      have hp12 : p = 12 := by omega
      refine Ev.run [(.aload_n 0, 1), (.aload_n 1, 1), (.getfield 51, 3)] (pc' := 61) (L' := [some (.ref 105), some (.ref 3), some (.int (nI p))]) (S' := [.int (I1 3 10), .ref 105]) rfl (by decide +kernel) rfl ?_
      refine Ev.putf (idx := 51) rfl rfl rfl (by decide +kernel) (rfl) rfl ?_
      dsimp only
      exact Ev.vret rfl (by decide +kernel) (⟨rfl, _, fun t ht => by obtain ⟨b1, b2, b3⟩ := f2 t (by omega); exact ⟨by rw [zz_up_ne (by omega)]; exact b1, b2.fr (by rw [zz_up_ne (by omega)]) (by rw [zz_up_ne (by omega)]) rfl rfl, b3.fr (by rw [zz_up_ne (by omega)]) (by rw [zz_up_ne (by omega)]) rfl rfl⟩, fun c h1 h2 h3 => by rw [zz_up_ne h3]; exact f1 c h1 h2, ⟨by rw [zz_up_eq, zz_ups, f1 _ (by omega) (by omega)], fun j hj => by rw [zz_up_eq, zz_upn hj, f1 _ (by omega) (by omega)]⟩, rfl⟩)
    · have h5 : p < 12 := zz_bG_f (by omega) (by omega) h5
      obtain ⟨⟨s1, hs1, hs2⟩, ⟨s3, hs3, hs4⟩⟩ := hZ.1 p (by omega)
      refine Ev.run [(.aload_n 0, 1), (.getfield 11, 3), (.iload_n 2, 1)] (pc' := 13) (L' := [some (.ref 105), some (.ref 3), some (.int (nI p))]) (S' := [.int (nI p), .ref 106]) rfl (by decide +kernel) rfl ?_
      refine Ev.aald p (by decide +kernel) (rfl) (by decide) (rfl) (by omega) (by first | decide | omega) (zz_a138 p (by omega)) ?_
      refine Ev.run [(.aload_n 1, 1), (.getfield 11, 3), (.iload_n 2, 1)] (pc' := 19) (L' := [some (.ref 105), some (.ref 3), some (.int (nI p))]) (S' := [.int (nI p), .ref 4, .ref (138 + 4 * p)]) rfl (by decide +kernel) rfl ?_
      refine Ev.aald p (by decide +kernel) (rfl) (by decide) (rfl) (by omega) (by first | decide | omega) (zz_a36 p (by omega)) ?_
      refine Ev.callV0 mX4_take [.ref (36 + 4 * p)] [] _ rfl lk_RX2_76 (by decide +kernel) ((zz_r138 p (by omega)).1) rfl rfl rfl (Nat.le_of_ble_eq_true rfl) (c_X4_take I1 J (138 + 4 * p) 12 (36 + 4 * p) 12 s1 (zz_r138 p (by omega)) (zz_r36 p (by omega)) (show I1 (36 + 4 * p) 1 = nI s1 from by rw [f1 _ (by omega) (by omega)]; exact hs2) hs1 (by omega) hs1) ?_
      rintro _ _ ⟨rfl, rfl⟩
      generalize hga : zz_sr I1 (138 + 4 * p) (zz_mix (I1 (36 + 4 * p + 1)) (I1 (138 + 4 * p + 1)) s1) s1 = X1
      have ea : RE X1 (138 + 4 * p) I1 (36 + 4 * p) := by rw [← hga]; exact RE_sr (show I1 (36 + 4 * p) 1 = nI s1 from by rw [f1 _ (by omega) (by omega)]; exact hs2) hs1
      have oa : ∀ c, c ≠ 138 + 4 * p → c ≠ 138 + 4 * p + 1 → X1 c = I1 c := fun c h1 h2 => by rw [← hga]; exact zz_sr_o h1 h2
      show Ev _ _ _ _ _ 23 [some (.ref 105), some (.ref 3), some (.int (nI p))] [] (zz_SH, X1, J) _
      refine Ev.run [(.aload_n 0, 1), (.getfield 17, 3), (.iload_n 2, 1)] (pc' := 28) (L' := [some (.ref 105), some (.ref 3), some (.int (nI p))]) (S' := [.int (nI p), .ref 107]) rfl (by decide +kernel) rfl ?_
      refine Ev.aald p (by decide +kernel) (rfl) (by decide) (rfl) (by omega) (by first | decide | omega) (zz_a140 p (by omega)) ?_
      refine Ev.run [(.aload_n 1, 1), (.getfield 17, 3), (.iload_n 2, 1)] (pc' := 34) (L' := [some (.ref 105), some (.ref 3), some (.int (nI p))]) (S' := [.int (nI p), .ref 5, .ref (140 + 4 * p)]) rfl (by decide +kernel) rfl ?_
      refine Ev.aald p (by decide +kernel) (rfl) (by decide) (rfl) (by omega) (by first | decide | omega) (zz_a38 p (by omega)) ?_
      refine Ev.callV0 mX4_take [.ref (38 + 4 * p)] [] _ rfl lk_RX2_76 (by decide +kernel) ((zz_r140 p (by omega)).1) rfl rfl rfl (Nat.le_of_ble_eq_true rfl) (c_X4_take X1 J (140 + 4 * p) 12 (38 + 4 * p) 12 s3 (zz_r140 p (by omega)) (zz_r38 p (by omega)) (show X1 (38 + 4 * p) 1 = nI s3 from by rw [oa _ (by omega) (by omega), f1 _ (by omega) (by omega)]; exact hs4) hs3 (by omega) hs3) ?_
      rintro _ _ ⟨rfl, rfl⟩
      generalize hgb : zz_sr X1 (140 + 4 * p) (zz_mix (X1 (38 + 4 * p + 1)) (X1 (140 + 4 * p + 1)) s3) s3 = X2
      have eb : RE X2 (140 + 4 * p) X1 (38 + 4 * p) := by rw [← hgb]; exact RE_sr (show X1 (38 + 4 * p) 1 = nI s3 from by rw [oa _ (by omega) (by omega), f1 _ (by omega) (by omega)]; exact hs4) hs3
      have ob9 : ∀ c, c ≠ 140 + 4 * p → c ≠ 140 + 4 * p + 1 → X2 c = X1 c := fun c h1 h2 => by rw [← hgb]; exact zz_sr_o h1 h2
      show Ev _ _ _ _ _ 38 [some (.ref 105), some (.ref 3), some (.int (nI p))] [] (zz_SH, X2, J) _
      refine Ev.run [(.aload_n 0, 1), (.getfield 20, 3), (.iload_n 2, 1), (.aload_n 1, 1), (.getfield 20, 3), (.iload_n 2, 1)] (pc' := 48) (L' := [some (.ref 105), some (.ref 3), some (.int (nI p))]) (S' := [.int (nI p), .ref 6, .int (nI p), .ref 108]) rfl (by decide +kernel) rfl ?_
      refine Ev.iald p (by decide +kernel) (rfl) (rfl) (by omega) (by first | decide | omega) ?_
      refine Ev.iast p (by decide +kernel) (rfl) (rfl) (by omega) (by first | decide | omega) ?_
      dsimp only
      refine Ev.run [(.iinc 2 1, 3)] (pc' := 53) (L' := [some (.ref 105), some (.ref 3), some (.int (nI p + 1))]) (S' := []) rfl (by decide +kernel) rfl ?_
      rw [nI_1 p]
      refine Ev.goto (off := (-51)) (tgt := 2) (by decide +kernel) (by decide) ?_
      refine ih (p + 1) _ (by omega) (by omega) (fun c h1 h2 => by rw [zz_up_ne (by omega), ob9 c (by omega) (by omega), oa c (by omega) (by omega)]; exact f1 c h1 h2) (fun t ht => ?_)
      by_cases e : t = p
      · rw [e]
        refine ⟨?_, ?_, ?_⟩
        · show zz_up X2 108 p _ 108 p = I 6 p
          rw [zz_up_eq, zz_ups, ob9 _ (by omega) (by omega), oa _ (by omega) (by omega), f1 _ (by omega) (by omega)]
        · exact ea.fr (by rw [zz_up_ne (by omega), ob9 _ (by omega) (by omega)]) (by rw [zz_up_ne (by omega), ob9 _ (by omega) (by omega)]) (f1 _ (by omega) (by omega)).symm (f1 _ (by omega) (by omega)).symm
        · exact eb.fr (by rw [zz_up_ne (by omega)]) (by rw [zz_up_ne (by omega)]) (by rw [oa _ (by omega) (by omega), f1 _ (by omega) (by omega)]) (by rw [oa _ (by omega) (by omega), f1 _ (by omega) (by omega)])
      · obtain ⟨b1, b2, b3⟩ := f2 t (by omega)
        refine ⟨?_, ?_, ?_⟩
        · show zz_up X2 108 p _ 108 t = _
          rw [zz_up_eq, zz_upn e, ob9 _ (by omega) (by omega), oa _ (by omega) (by omega)]; exact b1
        · exact b2.fr (by rw [zz_up_ne (by omega), ob9 _ (by omega) (by omega), oa _ (by omega) (by omega)]) (by rw [zz_up_ne (by omega), ob9 _ (by omega) (by omega), oa _ (by omega) (by omega)]) rfl rfl
        · exact b3.fr (by rw [zz_up_ne (by omega), ob9 _ (by omega) (by omega), oa _ (by omega) (by omega)]) (by rw [zz_up_ne (by omega), ob9 _ (by omega) (by omega), oa _ (by omega) (by omega)]) rfl rfl

set_option maxRecDepth 100000 in
set_option maxHeartbeats 4000000 in
theorem c_tp_105_3 {sc : Nat × (Nat → Int32)} {d : Nat} (I : Nat → Nat → Int32) (J : Nat → Nat → Int64) (hZ : CZ 3 I) : EvM sc (d + 3) 0 0 mX2_takePairs [.ref 105, .ref 3] (zz_SH, I, J) (fun r σ => r = none ∧ ∃ I' : Nat → Nat → Int32, TP 105 3 I I' 12 ∧ (∀ c, (c < 138 ∨ 185 < c) → c ≠ 108 → c ≠ 105 → I' c = I c) ∧ (I' 105 10 = I 3 10 ∧ ∀ j, j ≠ 10 → I' 105 j = I 105 j) ∧ σ = (zz_SH, I', J)) := by
  refine EvM.of (by decide) rfl (Nat.le_of_ble_eq_true rfl) ?_
  show Ev _ _ _ _ _ 0 [some (.ref 105), some (.ref 3), none] [] (zz_SH, I, J) _
  refine Ev.run [(.iconst 0, 1), (.istore_n 2, 1)] (pc' := 2) (L' := [some (.ref 105), some (.ref 3), some (.int (nI 0))]) (S' := []) rfl (by decide +kernel) rfl ?_
  exact l_tp_105_3 I J hZ 13 0 I (by omega) (by omega) (fun _ _ _ => rfl) (fun t ht => absurd ht (Nat.not_lt_zero t))

set_option maxRecDepth 100000 in
set_option maxHeartbeats 4000000 in
theorem l_tl_105_3 {sc : Nat × (Nat → Int32)} {d : Nat} (Y : Nat → Nat → Int32) (J : Nat → Nat → Int64) (s : Nat) (hs : s < 10) (Q : Option Value → zz_St → Prop) (hout : ∀ h : Nat → Int32, (∀ j, j < 10 → h j = Y (20 + s) j) → Ev sc (d + 3) 0 0 mX2_takeText 83 [some (.ref 105), some (.ref 3), some (.int (nI s)), none] [] (zz_SH, zz_cs Y (122 + s) h, J) Q) : ∀ (μ : Nat) (t : Nat) (h : Nat → Int32), 10 - t < μ → (t ≤ 10) → (∀ j, j < t → h j = Y (20 + s) j) →  Ev sc (d + 3) 0 0 mX2_takeText 55 [some (.ref 105), some (.ref 3), some (.int (nI s)), some (.int (nI t))] [] (zz_SH, zz_cs Y (122 + s) h, J) (Q) := by
  intro μ
  induction μ with
  | zero => intro t h hμ; exact absurd hμ (Nat.not_lt_zero _)
  | succ μ ih =>
    intro t h hμ ht hh
    refine Ev.run [(.iload_n 3, 1), (.bipush 10, 2)] (pc' := 58) (L' := [some (.ref 105), some (.ref 3), some (.int (nI s)), some (.int (nI t))]) (S' := [.int (nI 10), .int (nI t)]) rfl (by decide +kernel) rfl ?_
    refine Ev.icmp_ge (off := 25) (tgt := 83) (by decide +kernel) (by decide) (fun h58 => ?_) (fun h58 => ?_)
    · have h58 : t ≥ 10 := zz_bG_t (by omega) (by omega) h58
      have ht10 : t = 10 := by omega
      refine Ev.weakL (L' := [some (.ref 105), some (.ref 3), some (.int (nI s)), none]) ⟨rfl, rfl, rfl, trivial⟩ ?_
      exact hout h (fun j hj => hh j (by omega))
    · have h58 : t < 10 := zz_bG_f (by omega) (by omega) h58
      refine Ev.run [(.aload_n 0, 1), (.getfield 32, 3), (.iload_n 2, 1)] (pc' := 66) (L' := [some (.ref 105), some (.ref 3), some (.int (nI s)), some (.int (nI t))]) (S' := [.int (nI s), .ref 121]) rfl (by decide +kernel) rfl ?_
      refine Ev.aald s (by decide +kernel) (rfl) (by decide) (rfl) (by omega) (by first | decide | omega) (zz_b122 s (by omega)) ?_
      refine Ev.run [(.iload_n 3, 1), (.aload_n 1, 1), (.getfield 32, 3), (.iload_n 2, 1)] (pc' := 73) (L' := [some (.ref 105), some (.ref 3), some (.int (nI s)), some (.int (nI t))]) (S' := [.int (nI s), .ref 19, .int (nI t), .ref (122 + s)]) rfl (by decide +kernel) rfl ?_
      refine Ev.aald s (by decide +kernel) (rfl) (by decide) (rfl) (by omega) (by first | decide | omega) (zz_b20 s (by omega)) ?_
      refine Ev.run [(.iload_n 3, 1)] (pc' := 75) (L' := [some (.ref 105), some (.ref 3), some (.int (nI s)), some (.int (nI t))]) (S' := [.int (nI t), .ref (20 + s), .int (nI t), .ref (122 + s)]) rfl (by decide +kernel) rfl ?_
      refine Ev.iald t (by decide +kernel) (zz_s20 s (by omega)) (rfl) (by omega) (by first | decide | omega) ?_
      refine Ev.iast t (by decide +kernel) (zz_s122 s (by omega)) (rfl) (by omega) (by first | decide | omega) ?_
      dsimp only
      refine Ev.run [(.iinc 3 1, 3)] (pc' := 80) (L' := [some (.ref 105), some (.ref 3), some (.int (nI s)), some (.int (nI t + 1))]) (S' := []) rfl (by decide +kernel) rfl ?_
      rw [nI_1 t]
      refine Ev.goto (off := (-25)) (tgt := 55) (by decide +kernel) (by decide) ?_
      rw [zz_cs_ne (x := 20 + s) (by omega), zz_cs_up]
      exact ih (t + 1) _ (by omega) (by omega) (fun j hj => by by_cases e : j = t; rw [e, zz_ups]; rw [zz_upn e]; exact hh j (by omega))

set_option maxRecDepth 100000 in
set_option maxHeartbeats 4000000 in
theorem l_tm_105_3 {sc : Nat × (Nat → Int32)} {d : Nat} (Y : Nat → Nat → Int32) (J : Nat → Nat → Int64) (s : Nat) (hs : s < 10) (Q : Option Value → zz_St → Prop) (hout : ∀ h : Nat → Int32, (∀ j, j < 12 → h j = Y (9 + s) j) → Ev sc (d + 3) 0 0 mX2_takeText 53 [some (.ref 105), some (.ref 3), some (.int (nI s)), none] [] (zz_SH, zz_cs Y (111 + s) h, J) Q) : ∀ (μ : Nat) (t : Nat) (h : Nat → Int32), 12 - t < μ → (t ≤ 12) → (∀ j, j < t → h j = Y (9 + s) j) →  Ev sc (d + 3) 0 0 mX2_takeText 25 [some (.ref 105), some (.ref 3), some (.int (nI s)), some (.int (nI t))] [] (zz_SH, zz_cs Y (111 + s) h, J) (Q) := by
  intro μ
  induction μ with
  | zero => intro t h hμ; exact absurd hμ (Nat.not_lt_zero _)
  | succ μ ih =>
    intro t h hμ ht hh
    refine Ev.run [(.iload_n 3, 1), (.bipush 12, 2)] (pc' := 28) (L' := [some (.ref 105), some (.ref 3), some (.int (nI s)), some (.int (nI t))]) (S' := [.int (nI 12), .int (nI t)]) rfl (by decide +kernel) rfl ?_
    refine Ev.icmp_ge (off := 25) (tgt := 53) (by decide +kernel) (by decide) (fun h28 => ?_) (fun h28 => ?_)
    · have h28 : t ≥ 12 := zz_bG_t (by omega) (by omega) h28
      have ht12 : t = 12 := by omega
      refine Ev.weakL (L' := [some (.ref 105), some (.ref 3), some (.int (nI s)), none]) ⟨rfl, rfl, rfl, trivial⟩ ?_
      exact hout h (fun j hj => hh j (by omega))
    · have h28 : t < 12 := zz_bG_f (by omega) (by omega) h28
      refine Ev.run [(.aload_n 0, 1), (.getfield 29, 3), (.iload_n 2, 1)] (pc' := 36) (L' := [some (.ref 105), some (.ref 3), some (.int (nI s)), some (.int (nI t))]) (S' := [.int (nI s), .ref 110]) rfl (by decide +kernel) rfl ?_
      refine Ev.aald s (by decide +kernel) (rfl) (by decide) (rfl) (by omega) (by first | decide | omega) (zz_b111 s (by omega)) ?_
      refine Ev.run [(.iload_n 3, 1), (.aload_n 1, 1), (.getfield 29, 3), (.iload_n 2, 1)] (pc' := 43) (L' := [some (.ref 105), some (.ref 3), some (.int (nI s)), some (.int (nI t))]) (S' := [.int (nI s), .ref 8, .int (nI t), .ref (111 + s)]) rfl (by decide +kernel) rfl ?_
      refine Ev.aald s (by decide +kernel) (rfl) (by decide) (rfl) (by omega) (by first | decide | omega) (zz_b9 s (by omega)) ?_
      refine Ev.run [(.iload_n 3, 1)] (pc' := 45) (L' := [some (.ref 105), some (.ref 3), some (.int (nI s)), some (.int (nI t))]) (S' := [.int (nI t), .ref (9 + s), .int (nI t), .ref (111 + s)]) rfl (by decide +kernel) rfl ?_
      refine Ev.iald t (by decide +kernel) (zz_s9 s (by omega)) (rfl) (by omega) (by first | decide | omega) ?_
      refine Ev.iast t (by decide +kernel) (zz_s111 s (by omega)) (rfl) (by omega) (by first | decide | omega) ?_
      dsimp only
      refine Ev.run [(.iinc 3 1, 3)] (pc' := 50) (L' := [some (.ref 105), some (.ref 3), some (.int (nI s)), some (.int (nI t + 1))]) (S' := []) rfl (by decide +kernel) rfl ?_
      rw [nI_1 t]
      refine Ev.goto (off := (-25)) (tgt := 25) (by decide +kernel) (by decide) ?_
      rw [zz_cs_ne (x := 9 + s) (by omega), zz_cs_up]
      exact ih (t + 1) _ (by omega) (by omega) (fun j hj => by by_cases e : j = t; rw [e, zz_ups]; rw [zz_upn e]; exact hh j (by omega))

set_option maxRecDepth 100000 in
set_option maxHeartbeats 4000000 in
theorem l_tt_105_3 {sc : Nat × (Nat → Int32)} {d : Nat} (I : Nat → Nat → Int32) (J : Nat → Nat → Int64) (hZ : CZ 3 I) : ∀ (μ : Nat) (s : Nat) (I1 : Nat → Nat → Int32), 10 - s < μ → (s ≤ 10) → (∀ c, (c < 111 ∨ 131 < c) → (c < 186 ∨ 205 < c) → c ≠ 121 → I1 c = I c) → (∀ t, t < s → TS 105 3 I I1 t) →  Ev sc (d + 3) 0 0 mX2_takeText 2 [some (.ref 105), some (.ref 3), some (.int (nI s)), none] [] (zz_SH, I1, J) (fun r σ => r = none ∧ ∃ I' : Nat → Nat → Int32, (∀ s, s < 10 → TS 105 3 I I' s) ∧ (∀ c, (c < 111 ∨ 131 < c) → (c < 186 ∨ 205 < c) → c ≠ 121 → c ≠ 105 → I' c = I c) ∧ (I' 105 11 = I 3 11 ∧ ∀ j, j ≠ 11 → I' 105 j = I 105 j) ∧ σ = (zz_SH, I', J)) := by
  intro μ
  induction μ with
  | zero => intro s I1 hμ; exact absurd hμ (Nat.not_lt_zero _)
  | succ μ ih =>
    intro s I1 hμ hs f1 f2
    refine Ev.run [(.iload_n 2, 1), (.bipush 10, 2)] (pc' := 5) (L' := [some (.ref 105), some (.ref 3), some (.int (nI s)), none]) (S' := [.int (nI 10), .int (nI s)]) rfl (by decide +kernel) rfl ?_
    refine Ev.icmp_ge (off := 84) (tgt := 89) (by decide +kernel) (by decide) (fun h5 => ?_) (fun h5 => ?_)
    · have h5 : s ≥ 10 := zz_bG_t (by omega) (by omega) h5
      have hs10 : s = 10 := by omega
      refine Ev.run [(.aload_n 0, 1), (.aload_n 1, 1), (.getfield 55, 3)] (pc' := 94) (L' := [some (.ref 105), some (.ref 3), some (.int (nI s)), none]) (S' := [.int (I1 3 11), .ref 105]) rfl (by decide +kernel) rfl ?_
      refine Ev.putf (idx := 55) rfl rfl rfl (by decide +kernel) (rfl) rfl ?_
      dsimp only
      exact Ev.vret rfl (by decide +kernel) (⟨rfl, _, fun t ht => by obtain ⟨b1, b2, b3⟩ := f2 t (by omega); exact ⟨b1.fr (by rw [zz_up_ne (by omega)]) (by rw [zz_up_ne (by omega)]) rfl rfl, fun p hp => by rw [zz_up_ne (by omega)]; exact b2 p hp, fun t2 ht2 => by rw [zz_up_ne (by omega)]; exact b3 t2 ht2⟩, fun c h1 h2 h5 h3 => by rw [zz_up_ne h3]; exact f1 c h1 h2 h5, ⟨by rw [zz_up_eq, zz_ups, f1 _ (by omega) (by omega) (by omega)], fun j hj => by rw [zz_up_eq, zz_upn hj, f1 _ (by omega) (by omega) (by omega)]⟩, rfl⟩)
    · have h5 : s < 10 := zz_bG_f (by omega) (by omega) h5
      obtain ⟨s1, hs1, hs2⟩ := hZ.2 s (by omega)
      refine Ev.run [(.aload_n 0, 1), (.getfield 24, 3), (.iload_n 2, 1)] (pc' := 13) (L' := [some (.ref 105), some (.ref 3), some (.int (nI s)), none]) (S' := [.int (nI s), .ref 109]) rfl (by decide +kernel) rfl ?_
      refine Ev.aald s (by decide +kernel) (rfl) (by decide) (rfl) (by omega) (by first | decide | omega) (zz_a186 s (by omega)) ?_
      refine Ev.run [(.aload_n 1, 1), (.getfield 24, 3), (.iload_n 2, 1)] (pc' := 19) (L' := [some (.ref 105), some (.ref 3), some (.int (nI s)), none]) (S' := [.int (nI s), .ref 7, .ref (186 + 2 * s)]) rfl (by decide +kernel) rfl ?_
      refine Ev.aald s (by decide +kernel) (rfl) (by decide) (rfl) (by omega) (by first | decide | omega) (zz_a84 s (by omega)) ?_
      refine Ev.callV0 mX4_take [.ref (84 + 2 * s)] [] _ rfl lk_RX2_76 (by decide +kernel) ((zz_r186 s (by omega)).1) rfl rfl rfl (Nat.le_of_ble_eq_true rfl) (c_X4_take I1 J (186 + 2 * s) 12 (84 + 2 * s) 12 s1 (zz_r186 s (by omega)) (zz_r84 s (by omega)) (show I1 (84 + 2 * s) 1 = nI s1 from by rw [f1 _ (by omega) (by omega) (by omega)]; exact hs2) hs1 (by omega) hs1) ?_
      rintro _ _ ⟨rfl, rfl⟩
      generalize hga : zz_sr I1 (186 + 2 * s) (zz_mix (I1 (84 + 2 * s + 1)) (I1 (186 + 2 * s + 1)) s1) s1 = X1
      have ea : RE X1 (186 + 2 * s) I1 (84 + 2 * s) := by rw [← hga]; exact RE_sr (show I1 (84 + 2 * s) 1 = nI s1 from by rw [f1 _ (by omega) (by omega) (by omega)]; exact hs2) hs1
      have oa : ∀ c, c ≠ 186 + 2 * s → c ≠ 186 + 2 * s + 1 → X1 c = I1 c := fun c h1 h2 => by rw [← hga]; exact zz_sr_o h1 h2
      show Ev _ _ _ _ _ 23 [some (.ref 105), some (.ref 3), some (.int (nI s)), none] [] (zz_SH, X1, J) _
      refine Ev.run [(.iconst 0, 1), (.istore_n 3, 1)] (pc' := 25) (L' := [some (.ref 105), some (.ref 3), some (.int (nI s)), some (.int (nI 0))]) (S' := []) rfl (by decide +kernel) rfl ?_
      rw [← zz_cs_id X1 (111 + s)]
      refine l_tm_105_3 X1 J s (by omega) _ ?_ 13 0 (X1 (111 + s)) (by omega) (by omega) (fun j hj => absurd hj (Nat.not_lt_zero j))
      intro h3 hh3
      show Ev _ _ _ _ _ 53 [some (.ref 105), some (.ref 3), some (.int (nI s)), none] [] (zz_SH, zz_cs X1 (111 + s) h3, J) _
      refine Ev.run [(.iconst 0, 1), (.istore_n 3, 1)] (pc' := 55) (L' := [some (.ref 105), some (.ref 3), some (.int (nI s)), some (.int (nI 0))]) (S' := []) rfl (by decide +kernel) rfl ?_
      rw [← zz_cs_id (zz_cs X1 (111 + s) h3) (122 + s)]
      refine l_tl_105_3 (zz_cs X1 (111 + s) h3) J s (by omega) _ ?_ 11 0 (zz_cs X1 (111 + s) h3 (122 + s)) (by omega) (by omega) (fun j hj => absurd hj (Nat.not_lt_zero j))
      intro h4 hh4
      show Ev _ _ _ _ _ 83 [some (.ref 105), some (.ref 3), some (.int (nI s)), none] [] (zz_SH, zz_cs (zz_cs X1 (111 + s) h3) (122 + s) h4, J) _
      refine Ev.run [(.iinc 2 1, 3)] (pc' := 86) (L' := [some (.ref 105), some (.ref 3), some (.int (nI s + 1)), none]) (S' := []) rfl (by decide +kernel) rfl ?_
      rw [nI_1 s]
      refine Ev.goto (off := (-84)) (tgt := 2) (by decide +kernel) (by decide) ?_
      refine ih (s + 1) _ (by omega) (by omega) (fun c h1 h2 h5 => by rw [zz_cs_ne (by omega), zz_cs_ne (by omega), oa c (by omega) (by omega)]; exact f1 c h1 h2 h5) (fun t ht => ?_)
      by_cases e : t = s
      · rw [e]
        refine ⟨ea.fr (by rw [zz_cs_ne (by omega), zz_cs_ne (by omega)]) (by rw [zz_cs_ne (by omega), zz_cs_ne (by omega)]) (f1 _ (by omega) (by omega) (by omega)).symm (f1 _ (by omega) (by omega) (by omega)).symm, fun p hp => ?_, fun t2 ht2 => ?_⟩
        · show zz_cs _ _ _ (111 + s) p = I (9 + s) p
          rw [zz_cs_ne (by omega), zz_cs_eq, hh3 p hp, oa _ (by omega) (by omega), f1 _ (by omega) (by omega) (by omega)]
        · show zz_cs _ _ _ (122 + s) t2 = I (20 + s) t2
          rw [zz_cs_eq, hh4 t2 ht2, zz_cs_ne (by omega), oa _ (by omega) (by omega), f1 _ (by omega) (by omega) (by omega)]
      · obtain ⟨b1, b2, b3⟩ := f2 t (by omega)
        refine ⟨b1.fr (by rw [zz_cs_ne (by omega), zz_cs_ne (by omega), oa _ (by omega) (by omega)]) (by rw [zz_cs_ne (by omega), zz_cs_ne (by omega), oa _ (by omega) (by omega)]) rfl rfl, fun p hp => ?_, fun t2 ht2 => ?_⟩
        · rw [zz_cs_ne (by omega), zz_cs_ne (by omega), oa _ (by omega) (by omega)]; exact b2 p hp
        · rw [zz_cs_ne (by omega), zz_cs_ne (by omega), oa _ (by omega) (by omega)]; exact b3 t2 ht2

set_option maxRecDepth 100000 in
set_option maxHeartbeats 4000000 in
theorem c_tt_105_3 {sc : Nat × (Nat → Int32)} {d : Nat} (I : Nat → Nat → Int32) (J : Nat → Nat → Int64) (hZ : CZ 3 I) : EvM sc (d + 3) 0 0 mX2_takeText [.ref 105, .ref 3] (zz_SH, I, J) (fun r σ => r = none ∧ ∃ I' : Nat → Nat → Int32, (∀ s, s < 10 → TS 105 3 I I' s) ∧ (∀ c, (c < 111 ∨ 131 < c) → (c < 186 ∨ 205 < c) → c ≠ 121 → c ≠ 105 → I' c = I c) ∧ (I' 105 11 = I 3 11 ∧ ∀ j, j ≠ 11 → I' 105 j = I 105 j) ∧ σ = (zz_SH, I', J)) := by
  refine EvM.of (by decide) rfl (Nat.le_of_ble_eq_true rfl) ?_
  show Ev _ _ _ _ _ 0 [some (.ref 105), some (.ref 3), none, none] [] (zz_SH, I, J) _
  refine Ev.run [(.iconst 0, 1), (.istore_n 2, 1)] (pc' := 2) (L' := [some (.ref 105), some (.ref 3), some (.int (nI 0)), none]) (S' := []) rfl (by decide +kernel) rfl ?_
  exact l_tt_105_3 I J hZ 11 0 I (by omega) (by omega) (fun _ _ _ _ => rfl) (fun t ht => absurd ht (Nat.not_lt_zero t))

set_option maxRecDepth 100000 in
set_option maxHeartbeats 4000000 in
theorem l_tp_206_3 {sc : Nat × (Nat → Int32)} {d : Nat} (I : Nat → Nat → Int32) (J : Nat → Nat → Int64) (hZ : CZ 3 I) : ∀ (μ : Nat) (p : Nat) (I1 : Nat → Nat → Int32), 12 - p < μ → (p ≤ 12) → (∀ c, (c < 239 ∨ 286 < c) → c ≠ 209 → I1 c = I c) → (TP 206 3 I I1 p) →  Ev sc (d + 3) 0 0 mX2_takePairs 2 [some (.ref 206), some (.ref 3), some (.int (nI p))] [] (zz_SH, I1, J) (fun r σ => r = none ∧ ∃ I' : Nat → Nat → Int32, TP 206 3 I I' 12 ∧ (∀ c, (c < 239 ∨ 286 < c) → c ≠ 209 → c ≠ 206 → I' c = I c) ∧ (I' 206 10 = I 3 10 ∧ ∀ j, j ≠ 10 → I' 206 j = I 206 j) ∧ σ = (zz_SH, I', J)) := by
  intro μ
  induction μ with
  | zero => intro p I1 hμ; exact absurd hμ (Nat.not_lt_zero _)
  | succ μ ih =>
    intro p I1 hμ hp f1 f2
    refine Ev.run [(.iload_n 2, 1), (.bipush 12, 2)] (pc' := 5) (L' := [some (.ref 206), some (.ref 3), some (.int (nI p))]) (S' := [.int (nI 12), .int (nI p)]) rfl (by decide +kernel) rfl ?_
    refine Ev.icmp_ge (off := 51) (tgt := 56) (by decide +kernel) (by decide) (fun h5 => ?_) (fun h5 => ?_)
    · have h5 : p ≥ 12 := zz_bG_t (by omega) (by omega) h5
      have hp12 : p = 12 := by omega
      refine Ev.run [(.aload_n 0, 1), (.aload_n 1, 1), (.getfield 51, 3)] (pc' := 61) (L' := [some (.ref 206), some (.ref 3), some (.int (nI p))]) (S' := [.int (I1 3 10), .ref 206]) rfl (by decide +kernel) rfl ?_
      refine Ev.putf (idx := 51) rfl rfl rfl (by decide +kernel) (rfl) rfl ?_
      dsimp only
      exact Ev.vret rfl (by decide +kernel) (⟨rfl, _, fun t ht => by obtain ⟨b1, b2, b3⟩ := f2 t (by omega); exact ⟨by rw [zz_up_ne (by omega)]; exact b1, b2.fr (by rw [zz_up_ne (by omega)]) (by rw [zz_up_ne (by omega)]) rfl rfl, b3.fr (by rw [zz_up_ne (by omega)]) (by rw [zz_up_ne (by omega)]) rfl rfl⟩, fun c h1 h2 h3 => by rw [zz_up_ne h3]; exact f1 c h1 h2, ⟨by rw [zz_up_eq, zz_ups, f1 _ (by omega) (by omega)], fun j hj => by rw [zz_up_eq, zz_upn hj, f1 _ (by omega) (by omega)]⟩, rfl⟩)
    · have h5 : p < 12 := zz_bG_f (by omega) (by omega) h5
      obtain ⟨⟨s1, hs1, hs2⟩, ⟨s3, hs3, hs4⟩⟩ := hZ.1 p (by omega)
      refine Ev.run [(.aload_n 0, 1), (.getfield 11, 3), (.iload_n 2, 1)] (pc' := 13) (L' := [some (.ref 206), some (.ref 3), some (.int (nI p))]) (S' := [.int (nI p), .ref 207]) rfl (by decide +kernel) rfl ?_
      refine Ev.aald p (by decide +kernel) (rfl) (by decide) (rfl) (by omega) (by first | decide | omega) (zz_a239 p (by omega)) ?_
      refine Ev.run [(.aload_n 1, 1), (.getfield 11, 3), (.iload_n 2, 1)] (pc' := 19) (L' := [some (.ref 206), some (.ref 3), some (.int (nI p))]) (S' := [.int (nI p), .ref 4, .ref (239 + 4 * p)]) rfl (by decide +kernel) rfl ?_
      refine Ev.aald p (by decide +kernel) (rfl) (by decide) (rfl) (by omega) (by first | decide | omega) (zz_a36 p (by omega)) ?_
      refine Ev.callV0 mX4_take [.ref (36 + 4 * p)] [] _ rfl lk_RX2_76 (by decide +kernel) ((zz_r239 p (by omega)).1) rfl rfl rfl (Nat.le_of_ble_eq_true rfl) (c_X4_take I1 J (239 + 4 * p) 12 (36 + 4 * p) 12 s1 (zz_r239 p (by omega)) (zz_r36 p (by omega)) (show I1 (36 + 4 * p) 1 = nI s1 from by rw [f1 _ (by omega) (by omega)]; exact hs2) hs1 (by omega) hs1) ?_
      rintro _ _ ⟨rfl, rfl⟩
      generalize hga : zz_sr I1 (239 + 4 * p) (zz_mix (I1 (36 + 4 * p + 1)) (I1 (239 + 4 * p + 1)) s1) s1 = X1
      have ea : RE X1 (239 + 4 * p) I1 (36 + 4 * p) := by rw [← hga]; exact RE_sr (show I1 (36 + 4 * p) 1 = nI s1 from by rw [f1 _ (by omega) (by omega)]; exact hs2) hs1
      have oa : ∀ c, c ≠ 239 + 4 * p → c ≠ 239 + 4 * p + 1 → X1 c = I1 c := fun c h1 h2 => by rw [← hga]; exact zz_sr_o h1 h2
      show Ev _ _ _ _ _ 23 [some (.ref 206), some (.ref 3), some (.int (nI p))] [] (zz_SH, X1, J) _
      refine Ev.run [(.aload_n 0, 1), (.getfield 17, 3), (.iload_n 2, 1)] (pc' := 28) (L' := [some (.ref 206), some (.ref 3), some (.int (nI p))]) (S' := [.int (nI p), .ref 208]) rfl (by decide +kernel) rfl ?_
      refine Ev.aald p (by decide +kernel) (rfl) (by decide) (rfl) (by omega) (by first | decide | omega) (zz_a241 p (by omega)) ?_
      refine Ev.run [(.aload_n 1, 1), (.getfield 17, 3), (.iload_n 2, 1)] (pc' := 34) (L' := [some (.ref 206), some (.ref 3), some (.int (nI p))]) (S' := [.int (nI p), .ref 5, .ref (241 + 4 * p)]) rfl (by decide +kernel) rfl ?_
      refine Ev.aald p (by decide +kernel) (rfl) (by decide) (rfl) (by omega) (by first | decide | omega) (zz_a38 p (by omega)) ?_
      refine Ev.callV0 mX4_take [.ref (38 + 4 * p)] [] _ rfl lk_RX2_76 (by decide +kernel) ((zz_r241 p (by omega)).1) rfl rfl rfl (Nat.le_of_ble_eq_true rfl) (c_X4_take X1 J (241 + 4 * p) 12 (38 + 4 * p) 12 s3 (zz_r241 p (by omega)) (zz_r38 p (by omega)) (show X1 (38 + 4 * p) 1 = nI s3 from by rw [oa _ (by omega) (by omega), f1 _ (by omega) (by omega)]; exact hs4) hs3 (by omega) hs3) ?_
      rintro _ _ ⟨rfl, rfl⟩
      generalize hgb : zz_sr X1 (241 + 4 * p) (zz_mix (X1 (38 + 4 * p + 1)) (X1 (241 + 4 * p + 1)) s3) s3 = X2
      have eb : RE X2 (241 + 4 * p) X1 (38 + 4 * p) := by rw [← hgb]; exact RE_sr (show X1 (38 + 4 * p) 1 = nI s3 from by rw [oa _ (by omega) (by omega), f1 _ (by omega) (by omega)]; exact hs4) hs3
      have ob9 : ∀ c, c ≠ 241 + 4 * p → c ≠ 241 + 4 * p + 1 → X2 c = X1 c := fun c h1 h2 => by rw [← hgb]; exact zz_sr_o h1 h2
      show Ev _ _ _ _ _ 38 [some (.ref 206), some (.ref 3), some (.int (nI p))] [] (zz_SH, X2, J) _
      refine Ev.run [(.aload_n 0, 1), (.getfield 20, 3), (.iload_n 2, 1), (.aload_n 1, 1), (.getfield 20, 3), (.iload_n 2, 1)] (pc' := 48) (L' := [some (.ref 206), some (.ref 3), some (.int (nI p))]) (S' := [.int (nI p), .ref 6, .int (nI p), .ref 209]) rfl (by decide +kernel) rfl ?_
      refine Ev.iald p (by decide +kernel) (rfl) (rfl) (by omega) (by first | decide | omega) ?_
      refine Ev.iast p (by decide +kernel) (rfl) (rfl) (by omega) (by first | decide | omega) ?_
      dsimp only
      refine Ev.run [(.iinc 2 1, 3)] (pc' := 53) (L' := [some (.ref 206), some (.ref 3), some (.int (nI p + 1))]) (S' := []) rfl (by decide +kernel) rfl ?_
      rw [nI_1 p]
      refine Ev.goto (off := (-51)) (tgt := 2) (by decide +kernel) (by decide) ?_
      refine ih (p + 1) _ (by omega) (by omega) (fun c h1 h2 => by rw [zz_up_ne (by omega), ob9 c (by omega) (by omega), oa c (by omega) (by omega)]; exact f1 c h1 h2) (fun t ht => ?_)
      by_cases e : t = p
      · rw [e]
        refine ⟨?_, ?_, ?_⟩
        · show zz_up X2 209 p _ 209 p = I 6 p
          rw [zz_up_eq, zz_ups, ob9 _ (by omega) (by omega), oa _ (by omega) (by omega), f1 _ (by omega) (by omega)]
        · exact ea.fr (by rw [zz_up_ne (by omega), ob9 _ (by omega) (by omega)]) (by rw [zz_up_ne (by omega), ob9 _ (by omega) (by omega)]) (f1 _ (by omega) (by omega)).symm (f1 _ (by omega) (by omega)).symm
        · exact eb.fr (by rw [zz_up_ne (by omega)]) (by rw [zz_up_ne (by omega)]) (by rw [oa _ (by omega) (by omega), f1 _ (by omega) (by omega)]) (by rw [oa _ (by omega) (by omega), f1 _ (by omega) (by omega)])
      · obtain ⟨b1, b2, b3⟩ := f2 t (by omega)
        refine ⟨?_, ?_, ?_⟩
        · show zz_up X2 209 p _ 209 t = _
          rw [zz_up_eq, zz_upn e, ob9 _ (by omega) (by omega), oa _ (by omega) (by omega)]; exact b1
        · exact b2.fr (by rw [zz_up_ne (by omega), ob9 _ (by omega) (by omega), oa _ (by omega) (by omega)]) (by rw [zz_up_ne (by omega), ob9 _ (by omega) (by omega), oa _ (by omega) (by omega)]) rfl rfl
        · exact b3.fr (by rw [zz_up_ne (by omega), ob9 _ (by omega) (by omega), oa _ (by omega) (by omega)]) (by rw [zz_up_ne (by omega), ob9 _ (by omega) (by omega), oa _ (by omega) (by omega)]) rfl rfl

set_option maxRecDepth 100000 in
set_option maxHeartbeats 4000000 in
theorem c_tp_206_3 {sc : Nat × (Nat → Int32)} {d : Nat} (I : Nat → Nat → Int32) (J : Nat → Nat → Int64) (hZ : CZ 3 I) : EvM sc (d + 3) 0 0 mX2_takePairs [.ref 206, .ref 3] (zz_SH, I, J) (fun r σ => r = none ∧ ∃ I' : Nat → Nat → Int32, TP 206 3 I I' 12 ∧ (∀ c, (c < 239 ∨ 286 < c) → c ≠ 209 → c ≠ 206 → I' c = I c) ∧ (I' 206 10 = I 3 10 ∧ ∀ j, j ≠ 10 → I' 206 j = I 206 j) ∧ σ = (zz_SH, I', J)) := by
  refine EvM.of (by decide) rfl (Nat.le_of_ble_eq_true rfl) ?_
  show Ev _ _ _ _ _ 0 [some (.ref 206), some (.ref 3), none] [] (zz_SH, I, J) _
  refine Ev.run [(.iconst 0, 1), (.istore_n 2, 1)] (pc' := 2) (L' := [some (.ref 206), some (.ref 3), some (.int (nI 0))]) (S' := []) rfl (by decide +kernel) rfl ?_
  exact l_tp_206_3 I J hZ 13 0 I (by omega) (by omega) (fun _ _ _ => rfl) (fun t ht => absurd ht (Nat.not_lt_zero t))

set_option maxRecDepth 100000 in
set_option maxHeartbeats 4000000 in
theorem l_tl_206_3 {sc : Nat × (Nat → Int32)} {d : Nat} (Y : Nat → Nat → Int32) (J : Nat → Nat → Int64) (s : Nat) (hs : s < 10) (Q : Option Value → zz_St → Prop) (hout : ∀ h : Nat → Int32, (∀ j, j < 10 → h j = Y (20 + s) j) → Ev sc (d + 3) 0 0 mX2_takeText 83 [some (.ref 206), some (.ref 3), some (.int (nI s)), none] [] (zz_SH, zz_cs Y (223 + s) h, J) Q) : ∀ (μ : Nat) (t : Nat) (h : Nat → Int32), 10 - t < μ → (t ≤ 10) → (∀ j, j < t → h j = Y (20 + s) j) →  Ev sc (d + 3) 0 0 mX2_takeText 55 [some (.ref 206), some (.ref 3), some (.int (nI s)), some (.int (nI t))] [] (zz_SH, zz_cs Y (223 + s) h, J) (Q) := by
  intro μ
  induction μ with
  | zero => intro t h hμ; exact absurd hμ (Nat.not_lt_zero _)
  | succ μ ih =>
    intro t h hμ ht hh
    refine Ev.run [(.iload_n 3, 1), (.bipush 10, 2)] (pc' := 58) (L' := [some (.ref 206), some (.ref 3), some (.int (nI s)), some (.int (nI t))]) (S' := [.int (nI 10), .int (nI t)]) rfl (by decide +kernel) rfl ?_
    refine Ev.icmp_ge (off := 25) (tgt := 83) (by decide +kernel) (by decide) (fun h58 => ?_) (fun h58 => ?_)
    · have h58 : t ≥ 10 := zz_bG_t (by omega) (by omega) h58
      have ht10 : t = 10 := by omega
      refine Ev.weakL (L' := [some (.ref 206), some (.ref 3), some (.int (nI s)), none]) ⟨rfl, rfl, rfl, trivial⟩ ?_
      exact hout h (fun j hj => hh j (by omega))
    · have h58 : t < 10 := zz_bG_f (by omega) (by omega) h58
      refine Ev.run [(.aload_n 0, 1), (.getfield 32, 3), (.iload_n 2, 1)] (pc' := 66) (L' := [some (.ref 206), some (.ref 3), some (.int (nI s)), some (.int (nI t))]) (S' := [.int (nI s), .ref 222]) rfl (by decide +kernel) rfl ?_
      refine Ev.aald s (by decide +kernel) (rfl) (by decide) (rfl) (by omega) (by first | decide | omega) (zz_b223 s (by omega)) ?_
      refine Ev.run [(.iload_n 3, 1), (.aload_n 1, 1), (.getfield 32, 3), (.iload_n 2, 1)] (pc' := 73) (L' := [some (.ref 206), some (.ref 3), some (.int (nI s)), some (.int (nI t))]) (S' := [.int (nI s), .ref 19, .int (nI t), .ref (223 + s)]) rfl (by decide +kernel) rfl ?_
      refine Ev.aald s (by decide +kernel) (rfl) (by decide) (rfl) (by omega) (by first | decide | omega) (zz_b20 s (by omega)) ?_
      refine Ev.run [(.iload_n 3, 1)] (pc' := 75) (L' := [some (.ref 206), some (.ref 3), some (.int (nI s)), some (.int (nI t))]) (S' := [.int (nI t), .ref (20 + s), .int (nI t), .ref (223 + s)]) rfl (by decide +kernel) rfl ?_
      refine Ev.iald t (by decide +kernel) (zz_s20 s (by omega)) (rfl) (by omega) (by first | decide | omega) ?_
      refine Ev.iast t (by decide +kernel) (zz_s223 s (by omega)) (rfl) (by omega) (by first | decide | omega) ?_
      dsimp only
      refine Ev.run [(.iinc 3 1, 3)] (pc' := 80) (L' := [some (.ref 206), some (.ref 3), some (.int (nI s)), some (.int (nI t + 1))]) (S' := []) rfl (by decide +kernel) rfl ?_
      rw [nI_1 t]
      refine Ev.goto (off := (-25)) (tgt := 55) (by decide +kernel) (by decide) ?_
      rw [zz_cs_ne (x := 20 + s) (by omega), zz_cs_up]
      exact ih (t + 1) _ (by omega) (by omega) (fun j hj => by by_cases e : j = t; rw [e, zz_ups]; rw [zz_upn e]; exact hh j (by omega))

set_option maxRecDepth 100000 in
set_option maxHeartbeats 4000000 in
theorem l_tm_206_3 {sc : Nat × (Nat → Int32)} {d : Nat} (Y : Nat → Nat → Int32) (J : Nat → Nat → Int64) (s : Nat) (hs : s < 10) (Q : Option Value → zz_St → Prop) (hout : ∀ h : Nat → Int32, (∀ j, j < 12 → h j = Y (9 + s) j) → Ev sc (d + 3) 0 0 mX2_takeText 53 [some (.ref 206), some (.ref 3), some (.int (nI s)), none] [] (zz_SH, zz_cs Y (212 + s) h, J) Q) : ∀ (μ : Nat) (t : Nat) (h : Nat → Int32), 12 - t < μ → (t ≤ 12) → (∀ j, j < t → h j = Y (9 + s) j) →  Ev sc (d + 3) 0 0 mX2_takeText 25 [some (.ref 206), some (.ref 3), some (.int (nI s)), some (.int (nI t))] [] (zz_SH, zz_cs Y (212 + s) h, J) (Q) := by
  intro μ
  induction μ with
  | zero => intro t h hμ; exact absurd hμ (Nat.not_lt_zero _)
  | succ μ ih =>
    intro t h hμ ht hh
    refine Ev.run [(.iload_n 3, 1), (.bipush 12, 2)] (pc' := 28) (L' := [some (.ref 206), some (.ref 3), some (.int (nI s)), some (.int (nI t))]) (S' := [.int (nI 12), .int (nI t)]) rfl (by decide +kernel) rfl ?_
    refine Ev.icmp_ge (off := 25) (tgt := 53) (by decide +kernel) (by decide) (fun h28 => ?_) (fun h28 => ?_)
    · have h28 : t ≥ 12 := zz_bG_t (by omega) (by omega) h28
      have ht12 : t = 12 := by omega
      refine Ev.weakL (L' := [some (.ref 206), some (.ref 3), some (.int (nI s)), none]) ⟨rfl, rfl, rfl, trivial⟩ ?_
      exact hout h (fun j hj => hh j (by omega))
    · have h28 : t < 12 := zz_bG_f (by omega) (by omega) h28
      refine Ev.run [(.aload_n 0, 1), (.getfield 29, 3), (.iload_n 2, 1)] (pc' := 36) (L' := [some (.ref 206), some (.ref 3), some (.int (nI s)), some (.int (nI t))]) (S' := [.int (nI s), .ref 211]) rfl (by decide +kernel) rfl ?_
      refine Ev.aald s (by decide +kernel) (rfl) (by decide) (rfl) (by omega) (by first | decide | omega) (zz_b212 s (by omega)) ?_
      refine Ev.run [(.iload_n 3, 1), (.aload_n 1, 1), (.getfield 29, 3), (.iload_n 2, 1)] (pc' := 43) (L' := [some (.ref 206), some (.ref 3), some (.int (nI s)), some (.int (nI t))]) (S' := [.int (nI s), .ref 8, .int (nI t), .ref (212 + s)]) rfl (by decide +kernel) rfl ?_
      refine Ev.aald s (by decide +kernel) (rfl) (by decide) (rfl) (by omega) (by first | decide | omega) (zz_b9 s (by omega)) ?_
      refine Ev.run [(.iload_n 3, 1)] (pc' := 45) (L' := [some (.ref 206), some (.ref 3), some (.int (nI s)), some (.int (nI t))]) (S' := [.int (nI t), .ref (9 + s), .int (nI t), .ref (212 + s)]) rfl (by decide +kernel) rfl ?_
      refine Ev.iald t (by decide +kernel) (zz_s9 s (by omega)) (rfl) (by omega) (by first | decide | omega) ?_
      refine Ev.iast t (by decide +kernel) (zz_s212 s (by omega)) (rfl) (by omega) (by first | decide | omega) ?_
      dsimp only
      refine Ev.run [(.iinc 3 1, 3)] (pc' := 50) (L' := [some (.ref 206), some (.ref 3), some (.int (nI s)), some (.int (nI t + 1))]) (S' := []) rfl (by decide +kernel) rfl ?_
      rw [nI_1 t]
      refine Ev.goto (off := (-25)) (tgt := 25) (by decide +kernel) (by decide) ?_
      rw [zz_cs_ne (x := 9 + s) (by omega), zz_cs_up]
      exact ih (t + 1) _ (by omega) (by omega) (fun j hj => by by_cases e : j = t; rw [e, zz_ups]; rw [zz_upn e]; exact hh j (by omega))

set_option maxRecDepth 100000 in
set_option maxHeartbeats 4000000 in
theorem l_tt_206_3 {sc : Nat × (Nat → Int32)} {d : Nat} (I : Nat → Nat → Int32) (J : Nat → Nat → Int64) (hZ : CZ 3 I) : ∀ (μ : Nat) (s : Nat) (I1 : Nat → Nat → Int32), 10 - s < μ → (s ≤ 10) → (∀ c, (c < 212 ∨ 232 < c) → (c < 287 ∨ 306 < c) → c ≠ 222 → I1 c = I c) → (∀ t, t < s → TS 206 3 I I1 t) →  Ev sc (d + 3) 0 0 mX2_takeText 2 [some (.ref 206), some (.ref 3), some (.int (nI s)), none] [] (zz_SH, I1, J) (fun r σ => r = none ∧ ∃ I' : Nat → Nat → Int32, (∀ s, s < 10 → TS 206 3 I I' s) ∧ (∀ c, (c < 212 ∨ 232 < c) → (c < 287 ∨ 306 < c) → c ≠ 222 → c ≠ 206 → I' c = I c) ∧ (I' 206 11 = I 3 11 ∧ ∀ j, j ≠ 11 → I' 206 j = I 206 j) ∧ σ = (zz_SH, I', J)) := by
  intro μ
  induction μ with
  | zero => intro s I1 hμ; exact absurd hμ (Nat.not_lt_zero _)
  | succ μ ih =>
    intro s I1 hμ hs f1 f2
    refine Ev.run [(.iload_n 2, 1), (.bipush 10, 2)] (pc' := 5) (L' := [some (.ref 206), some (.ref 3), some (.int (nI s)), none]) (S' := [.int (nI 10), .int (nI s)]) rfl (by decide +kernel) rfl ?_
    refine Ev.icmp_ge (off := 84) (tgt := 89) (by decide +kernel) (by decide) (fun h5 => ?_) (fun h5 => ?_)
    · have h5 : s ≥ 10 := zz_bG_t (by omega) (by omega) h5
      have hs10 : s = 10 := by omega
      refine Ev.run [(.aload_n 0, 1), (.aload_n 1, 1), (.getfield 55, 3)] (pc' := 94) (L' := [some (.ref 206), some (.ref 3), some (.int (nI s)), none]) (S' := [.int (I1 3 11), .ref 206]) rfl (by decide +kernel) rfl ?_
      refine Ev.putf (idx := 55) rfl rfl rfl (by decide +kernel) (rfl) rfl ?_
      dsimp only
      exact Ev.vret rfl (by decide +kernel) (⟨rfl, _, fun t ht => by obtain ⟨b1, b2, b3⟩ := f2 t (by omega); exact ⟨b1.fr (by rw [zz_up_ne (by omega)]) (by rw [zz_up_ne (by omega)]) rfl rfl, fun p hp => by rw [zz_up_ne (by omega)]; exact b2 p hp, fun t2 ht2 => by rw [zz_up_ne (by omega)]; exact b3 t2 ht2⟩, fun c h1 h2 h5 h3 => by rw [zz_up_ne h3]; exact f1 c h1 h2 h5, ⟨by rw [zz_up_eq, zz_ups, f1 _ (by omega) (by omega) (by omega)], fun j hj => by rw [zz_up_eq, zz_upn hj, f1 _ (by omega) (by omega) (by omega)]⟩, rfl⟩)
    · have h5 : s < 10 := zz_bG_f (by omega) (by omega) h5
      obtain ⟨s1, hs1, hs2⟩ := hZ.2 s (by omega)
      refine Ev.run [(.aload_n 0, 1), (.getfield 24, 3), (.iload_n 2, 1)] (pc' := 13) (L' := [some (.ref 206), some (.ref 3), some (.int (nI s)), none]) (S' := [.int (nI s), .ref 210]) rfl (by decide +kernel) rfl ?_
      refine Ev.aald s (by decide +kernel) (rfl) (by decide) (rfl) (by omega) (by first | decide | omega) (zz_a287 s (by omega)) ?_
      refine Ev.run [(.aload_n 1, 1), (.getfield 24, 3), (.iload_n 2, 1)] (pc' := 19) (L' := [some (.ref 206), some (.ref 3), some (.int (nI s)), none]) (S' := [.int (nI s), .ref 7, .ref (287 + 2 * s)]) rfl (by decide +kernel) rfl ?_
      refine Ev.aald s (by decide +kernel) (rfl) (by decide) (rfl) (by omega) (by first | decide | omega) (zz_a84 s (by omega)) ?_
      refine Ev.callV0 mX4_take [.ref (84 + 2 * s)] [] _ rfl lk_RX2_76 (by decide +kernel) ((zz_r287 s (by omega)).1) rfl rfl rfl (Nat.le_of_ble_eq_true rfl) (c_X4_take I1 J (287 + 2 * s) 12 (84 + 2 * s) 12 s1 (zz_r287 s (by omega)) (zz_r84 s (by omega)) (show I1 (84 + 2 * s) 1 = nI s1 from by rw [f1 _ (by omega) (by omega) (by omega)]; exact hs2) hs1 (by omega) hs1) ?_
      rintro _ _ ⟨rfl, rfl⟩
      generalize hga : zz_sr I1 (287 + 2 * s) (zz_mix (I1 (84 + 2 * s + 1)) (I1 (287 + 2 * s + 1)) s1) s1 = X1
      have ea : RE X1 (287 + 2 * s) I1 (84 + 2 * s) := by rw [← hga]; exact RE_sr (show I1 (84 + 2 * s) 1 = nI s1 from by rw [f1 _ (by omega) (by omega) (by omega)]; exact hs2) hs1
      have oa : ∀ c, c ≠ 287 + 2 * s → c ≠ 287 + 2 * s + 1 → X1 c = I1 c := fun c h1 h2 => by rw [← hga]; exact zz_sr_o h1 h2
      show Ev _ _ _ _ _ 23 [some (.ref 206), some (.ref 3), some (.int (nI s)), none] [] (zz_SH, X1, J) _
      refine Ev.run [(.iconst 0, 1), (.istore_n 3, 1)] (pc' := 25) (L' := [some (.ref 206), some (.ref 3), some (.int (nI s)), some (.int (nI 0))]) (S' := []) rfl (by decide +kernel) rfl ?_
      rw [← zz_cs_id X1 (212 + s)]
      refine l_tm_206_3 X1 J s (by omega) _ ?_ 13 0 (X1 (212 + s)) (by omega) (by omega) (fun j hj => absurd hj (Nat.not_lt_zero j))
      intro h3 hh3
      show Ev _ _ _ _ _ 53 [some (.ref 206), some (.ref 3), some (.int (nI s)), none] [] (zz_SH, zz_cs X1 (212 + s) h3, J) _
      refine Ev.run [(.iconst 0, 1), (.istore_n 3, 1)] (pc' := 55) (L' := [some (.ref 206), some (.ref 3), some (.int (nI s)), some (.int (nI 0))]) (S' := []) rfl (by decide +kernel) rfl ?_
      rw [← zz_cs_id (zz_cs X1 (212 + s) h3) (223 + s)]
      refine l_tl_206_3 (zz_cs X1 (212 + s) h3) J s (by omega) _ ?_ 11 0 (zz_cs X1 (212 + s) h3 (223 + s)) (by omega) (by omega) (fun j hj => absurd hj (Nat.not_lt_zero j))
      intro h4 hh4
      show Ev _ _ _ _ _ 83 [some (.ref 206), some (.ref 3), some (.int (nI s)), none] [] (zz_SH, zz_cs (zz_cs X1 (212 + s) h3) (223 + s) h4, J) _
      refine Ev.run [(.iinc 2 1, 3)] (pc' := 86) (L' := [some (.ref 206), some (.ref 3), some (.int (nI s + 1)), none]) (S' := []) rfl (by decide +kernel) rfl ?_
      rw [nI_1 s]
      refine Ev.goto (off := (-84)) (tgt := 2) (by decide +kernel) (by decide) ?_
      refine ih (s + 1) _ (by omega) (by omega) (fun c h1 h2 h5 => by rw [zz_cs_ne (by omega), zz_cs_ne (by omega), oa c (by omega) (by omega)]; exact f1 c h1 h2 h5) (fun t ht => ?_)
      by_cases e : t = s
      · rw [e]
        refine ⟨ea.fr (by rw [zz_cs_ne (by omega), zz_cs_ne (by omega)]) (by rw [zz_cs_ne (by omega), zz_cs_ne (by omega)]) (f1 _ (by omega) (by omega) (by omega)).symm (f1 _ (by omega) (by omega) (by omega)).symm, fun p hp => ?_, fun t2 ht2 => ?_⟩
        · show zz_cs _ _ _ (212 + s) p = I (9 + s) p
          rw [zz_cs_ne (by omega), zz_cs_eq, hh3 p hp, oa _ (by omega) (by omega), f1 _ (by omega) (by omega) (by omega)]
        · show zz_cs _ _ _ (223 + s) t2 = I (20 + s) t2
          rw [zz_cs_eq, hh4 t2 ht2, zz_cs_ne (by omega), oa _ (by omega) (by omega), f1 _ (by omega) (by omega) (by omega)]
      · obtain ⟨b1, b2, b3⟩ := f2 t (by omega)
        refine ⟨b1.fr (by rw [zz_cs_ne (by omega), zz_cs_ne (by omega), oa _ (by omega) (by omega)]) (by rw [zz_cs_ne (by omega), zz_cs_ne (by omega), oa _ (by omega) (by omega)]) rfl rfl, fun p hp => ?_, fun t2 ht2 => ?_⟩
        · rw [zz_cs_ne (by omega), zz_cs_ne (by omega), oa _ (by omega) (by omega)]; exact b2 p hp
        · rw [zz_cs_ne (by omega), zz_cs_ne (by omega), oa _ (by omega) (by omega)]; exact b3 t2 ht2

set_option maxRecDepth 100000 in
set_option maxHeartbeats 4000000 in
theorem c_tt_206_3 {sc : Nat × (Nat → Int32)} {d : Nat} (I : Nat → Nat → Int32) (J : Nat → Nat → Int64) (hZ : CZ 3 I) : EvM sc (d + 3) 0 0 mX2_takeText [.ref 206, .ref 3] (zz_SH, I, J) (fun r σ => r = none ∧ ∃ I' : Nat → Nat → Int32, (∀ s, s < 10 → TS 206 3 I I' s) ∧ (∀ c, (c < 212 ∨ 232 < c) → (c < 287 ∨ 306 < c) → c ≠ 222 → c ≠ 206 → I' c = I c) ∧ (I' 206 11 = I 3 11 ∧ ∀ j, j ≠ 11 → I' 206 j = I 206 j) ∧ σ = (zz_SH, I', J)) := by
  refine EvM.of (by decide) rfl (Nat.le_of_ble_eq_true rfl) ?_
  show Ev _ _ _ _ _ 0 [some (.ref 206), some (.ref 3), none, none] [] (zz_SH, I, J) _
  refine Ev.run [(.iconst 0, 1), (.istore_n 2, 1)] (pc' := 2) (L' := [some (.ref 206), some (.ref 3), some (.int (nI 0)), none]) (S' := []) rfl (by decide +kernel) rfl ?_
  exact l_tt_206_3 I J hZ 11 0 I (by omega) (by omega) (fun _ _ _ _ => rfl) (fun t ht => absurd ht (Nat.not_lt_zero t))

set_option maxRecDepth 100000 in
set_option maxHeartbeats 4000000 in
theorem l_tp_3_105 {sc : Nat × (Nat → Int32)} {d : Nat} (I : Nat → Nat → Int32) (J : Nat → Nat → Int64) (hZ : CZ 105 I) : ∀ (μ : Nat) (p : Nat) (I1 : Nat → Nat → Int32), 12 - p < μ → (p ≤ 12) → (∀ c, (c < 36 ∨ 83 < c) → c ≠ 6 → I1 c = I c) → (TP 3 105 I I1 p) →  Ev sc (d + 3) 0 0 mX2_takePairs 2 [some (.ref 3), some (.ref 105), some (.int (nI p))] [] (zz_SH, I1, J) (fun r σ => r = none ∧ ∃ I' : Nat → Nat → Int32, TP 3 105 I I' 12 ∧ (∀ c, (c < 36 ∨ 83 < c) → c ≠ 6 → c ≠ 3 → I' c = I c) ∧ (I' 3 10 = I 105 10 ∧ ∀ j, j ≠ 10 → I' 3 j = I 3 j) ∧ σ = (zz_SH, I', J)) := by
  intro μ
  induction μ with
  | zero => intro p I1 hμ; exact absurd hμ (Nat.not_lt_zero _)
  | succ μ ih =>
    intro p I1 hμ hp f1 f2
    refine Ev.run [(.iload_n 2, 1), (.bipush 12, 2)] (pc' := 5) (L' := [some (.ref 3), some (.ref 105), some (.int (nI p))]) (S' := [.int (nI 12), .int (nI p)]) rfl (by decide +kernel) rfl ?_
    refine Ev.icmp_ge (off := 51) (tgt := 56) (by decide +kernel) (by decide) (fun h5 => ?_) (fun h5 => ?_)
    · have h5 : p ≥ 12 := zz_bG_t (by omega) (by omega) h5
      have hp12 : p = 12 := by omega
      refine Ev.run [(.aload_n 0, 1), (.aload_n 1, 1), (.getfield 51, 3)] (pc' := 61) (L' := [some (.ref 3), some (.ref 105), some (.int (nI p))]) (S' := [.int (I1 105 10), .ref 3]) rfl (by decide +kernel) rfl ?_
      refine Ev.putf (idx := 51) rfl rfl rfl (by decide +kernel) (rfl) rfl ?_
      dsimp only
      exact Ev.vret rfl (by decide +kernel) (⟨rfl, _, fun t ht => by obtain ⟨b1, b2, b3⟩ := f2 t (by omega); exact ⟨by rw [zz_up_ne (by omega)]; exact b1, b2.fr (by rw [zz_up_ne (by omega)]) (by rw [zz_up_ne (by omega)]) rfl rfl, b3.fr (by rw [zz_up_ne (by omega)]) (by rw [zz_up_ne (by omega)]) rfl rfl⟩, fun c h1 h2 h3 => by rw [zz_up_ne h3]; exact f1 c h1 h2, ⟨by rw [zz_up_eq, zz_ups, f1 _ (by omega) (by omega)], fun j hj => by rw [zz_up_eq, zz_upn hj, f1 _ (by omega) (by omega)]⟩, rfl⟩)
    · have h5 : p < 12 := zz_bG_f (by omega) (by omega) h5
      obtain ⟨⟨s1, hs1, hs2⟩, ⟨s3, hs3, hs4⟩⟩ := hZ.1 p (by omega)
      refine Ev.run [(.aload_n 0, 1), (.getfield 11, 3), (.iload_n 2, 1)] (pc' := 13) (L' := [some (.ref 3), some (.ref 105), some (.int (nI p))]) (S' := [.int (nI p), .ref 4]) rfl (by decide +kernel) rfl ?_
      refine Ev.aald p (by decide +kernel) (rfl) (by decide) (rfl) (by omega) (by first | decide | omega) (zz_a36 p (by omega)) ?_
      refine Ev.run [(.aload_n 1, 1), (.getfield 11, 3), (.iload_n 2, 1)] (pc' := 19) (L' := [some (.ref 3), some (.ref 105), some (.int (nI p))]) (S' := [.int (nI p), .ref 106, .ref (36 + 4 * p)]) rfl (by decide +kernel) rfl ?_
      refine Ev.aald p (by decide +kernel) (rfl) (by decide) (rfl) (by omega) (by first | decide | omega) (zz_a138 p (by omega)) ?_
      refine Ev.callV0 mX4_take [.ref (138 + 4 * p)] [] _ rfl lk_RX2_76 (by decide +kernel) ((zz_r36 p (by omega)).1) rfl rfl rfl (Nat.le_of_ble_eq_true rfl) (c_X4_take I1 J (36 + 4 * p) 12 (138 + 4 * p) 12 s1 (zz_r36 p (by omega)) (zz_r138 p (by omega)) (show I1 (138 + 4 * p) 1 = nI s1 from by rw [f1 _ (by omega) (by omega)]; exact hs2) hs1 (by omega) hs1) ?_
      rintro _ _ ⟨rfl, rfl⟩
      generalize hga : zz_sr I1 (36 + 4 * p) (zz_mix (I1 (138 + 4 * p + 1)) (I1 (36 + 4 * p + 1)) s1) s1 = X1
      have ea : RE X1 (36 + 4 * p) I1 (138 + 4 * p) := by rw [← hga]; exact RE_sr (show I1 (138 + 4 * p) 1 = nI s1 from by rw [f1 _ (by omega) (by omega)]; exact hs2) hs1
      have oa : ∀ c, c ≠ 36 + 4 * p → c ≠ 36 + 4 * p + 1 → X1 c = I1 c := fun c h1 h2 => by rw [← hga]; exact zz_sr_o h1 h2
      show Ev _ _ _ _ _ 23 [some (.ref 3), some (.ref 105), some (.int (nI p))] [] (zz_SH, X1, J) _
      refine Ev.run [(.aload_n 0, 1), (.getfield 17, 3), (.iload_n 2, 1)] (pc' := 28) (L' := [some (.ref 3), some (.ref 105), some (.int (nI p))]) (S' := [.int (nI p), .ref 5]) rfl (by decide +kernel) rfl ?_
      refine Ev.aald p (by decide +kernel) (rfl) (by decide) (rfl) (by omega) (by first | decide | omega) (zz_a38 p (by omega)) ?_
      refine Ev.run [(.aload_n 1, 1), (.getfield 17, 3), (.iload_n 2, 1)] (pc' := 34) (L' := [some (.ref 3), some (.ref 105), some (.int (nI p))]) (S' := [.int (nI p), .ref 107, .ref (38 + 4 * p)]) rfl (by decide +kernel) rfl ?_
      refine Ev.aald p (by decide +kernel) (rfl) (by decide) (rfl) (by omega) (by first | decide | omega) (zz_a140 p (by omega)) ?_
      refine Ev.callV0 mX4_take [.ref (140 + 4 * p)] [] _ rfl lk_RX2_76 (by decide +kernel) ((zz_r38 p (by omega)).1) rfl rfl rfl (Nat.le_of_ble_eq_true rfl) (c_X4_take X1 J (38 + 4 * p) 12 (140 + 4 * p) 12 s3 (zz_r38 p (by omega)) (zz_r140 p (by omega)) (show X1 (140 + 4 * p) 1 = nI s3 from by rw [oa _ (by omega) (by omega), f1 _ (by omega) (by omega)]; exact hs4) hs3 (by omega) hs3) ?_
      rintro _ _ ⟨rfl, rfl⟩
      generalize hgb : zz_sr X1 (38 + 4 * p) (zz_mix (X1 (140 + 4 * p + 1)) (X1 (38 + 4 * p + 1)) s3) s3 = X2
      have eb : RE X2 (38 + 4 * p) X1 (140 + 4 * p) := by rw [← hgb]; exact RE_sr (show X1 (140 + 4 * p) 1 = nI s3 from by rw [oa _ (by omega) (by omega), f1 _ (by omega) (by omega)]; exact hs4) hs3
      have ob9 : ∀ c, c ≠ 38 + 4 * p → c ≠ 38 + 4 * p + 1 → X2 c = X1 c := fun c h1 h2 => by rw [← hgb]; exact zz_sr_o h1 h2
      show Ev _ _ _ _ _ 38 [some (.ref 3), some (.ref 105), some (.int (nI p))] [] (zz_SH, X2, J) _
      refine Ev.run [(.aload_n 0, 1), (.getfield 20, 3), (.iload_n 2, 1), (.aload_n 1, 1), (.getfield 20, 3), (.iload_n 2, 1)] (pc' := 48) (L' := [some (.ref 3), some (.ref 105), some (.int (nI p))]) (S' := [.int (nI p), .ref 108, .int (nI p), .ref 6]) rfl (by decide +kernel) rfl ?_
      refine Ev.iald p (by decide +kernel) (rfl) (rfl) (by omega) (by first | decide | omega) ?_
      refine Ev.iast p (by decide +kernel) (rfl) (rfl) (by omega) (by first | decide | omega) ?_
      dsimp only
      refine Ev.run [(.iinc 2 1, 3)] (pc' := 53) (L' := [some (.ref 3), some (.ref 105), some (.int (nI p + 1))]) (S' := []) rfl (by decide +kernel) rfl ?_
      rw [nI_1 p]
      refine Ev.goto (off := (-51)) (tgt := 2) (by decide +kernel) (by decide) ?_
      refine ih (p + 1) _ (by omega) (by omega) (fun c h1 h2 => by rw [zz_up_ne (by omega), ob9 c (by omega) (by omega), oa c (by omega) (by omega)]; exact f1 c h1 h2) (fun t ht => ?_)
      by_cases e : t = p
      · rw [e]
        refine ⟨?_, ?_, ?_⟩
        · show zz_up X2 6 p _ 6 p = I 108 p
          rw [zz_up_eq, zz_ups, ob9 _ (by omega) (by omega), oa _ (by omega) (by omega), f1 _ (by omega) (by omega)]
        · exact ea.fr (by rw [zz_up_ne (by omega), ob9 _ (by omega) (by omega)]) (by rw [zz_up_ne (by omega), ob9 _ (by omega) (by omega)]) (f1 _ (by omega) (by omega)).symm (f1 _ (by omega) (by omega)).symm
        · exact eb.fr (by rw [zz_up_ne (by omega)]) (by rw [zz_up_ne (by omega)]) (by rw [oa _ (by omega) (by omega), f1 _ (by omega) (by omega)]) (by rw [oa _ (by omega) (by omega), f1 _ (by omega) (by omega)])
      · obtain ⟨b1, b2, b3⟩ := f2 t (by omega)
        refine ⟨?_, ?_, ?_⟩
        · show zz_up X2 6 p _ 6 t = _
          rw [zz_up_eq, zz_upn e, ob9 _ (by omega) (by omega), oa _ (by omega) (by omega)]; exact b1
        · exact b2.fr (by rw [zz_up_ne (by omega), ob9 _ (by omega) (by omega), oa _ (by omega) (by omega)]) (by rw [zz_up_ne (by omega), ob9 _ (by omega) (by omega), oa _ (by omega) (by omega)]) rfl rfl
        · exact b3.fr (by rw [zz_up_ne (by omega), ob9 _ (by omega) (by omega), oa _ (by omega) (by omega)]) (by rw [zz_up_ne (by omega), ob9 _ (by omega) (by omega), oa _ (by omega) (by omega)]) rfl rfl

set_option maxRecDepth 100000 in
set_option maxHeartbeats 4000000 in
theorem c_tp_3_105 {sc : Nat × (Nat → Int32)} {d : Nat} (I : Nat → Nat → Int32) (J : Nat → Nat → Int64) (hZ : CZ 105 I) : EvM sc (d + 3) 0 0 mX2_takePairs [.ref 3, .ref 105] (zz_SH, I, J) (fun r σ => r = none ∧ ∃ I' : Nat → Nat → Int32, TP 3 105 I I' 12 ∧ (∀ c, (c < 36 ∨ 83 < c) → c ≠ 6 → c ≠ 3 → I' c = I c) ∧ (I' 3 10 = I 105 10 ∧ ∀ j, j ≠ 10 → I' 3 j = I 3 j) ∧ σ = (zz_SH, I', J)) := by
  refine EvM.of (by decide) rfl (Nat.le_of_ble_eq_true rfl) ?_
  show Ev _ _ _ _ _ 0 [some (.ref 3), some (.ref 105), none] [] (zz_SH, I, J) _
  refine Ev.run [(.iconst 0, 1), (.istore_n 2, 1)] (pc' := 2) (L' := [some (.ref 3), some (.ref 105), some (.int (nI 0))]) (S' := []) rfl (by decide +kernel) rfl ?_
  exact l_tp_3_105 I J hZ 13 0 I (by omega) (by omega) (fun _ _ _ => rfl) (fun t ht => absurd ht (Nat.not_lt_zero t))

set_option maxRecDepth 100000 in
set_option maxHeartbeats 4000000 in
theorem l_tl_3_105 {sc : Nat × (Nat → Int32)} {d : Nat} (Y : Nat → Nat → Int32) (J : Nat → Nat → Int64) (s : Nat) (hs : s < 10) (Q : Option Value → zz_St → Prop) (hout : ∀ h : Nat → Int32, (∀ j, j < 10 → h j = Y (122 + s) j) → Ev sc (d + 3) 0 0 mX2_takeText 83 [some (.ref 3), some (.ref 105), some (.int (nI s)), none] [] (zz_SH, zz_cs Y (20 + s) h, J) Q) : ∀ (μ : Nat) (t : Nat) (h : Nat → Int32), 10 - t < μ → (t ≤ 10) → (∀ j, j < t → h j = Y (122 + s) j) →  Ev sc (d + 3) 0 0 mX2_takeText 55 [some (.ref 3), some (.ref 105), some (.int (nI s)), some (.int (nI t))] [] (zz_SH, zz_cs Y (20 + s) h, J) (Q) := by
  intro μ
  induction μ with
  | zero => intro t h hμ; exact absurd hμ (Nat.not_lt_zero _)
  | succ μ ih =>
    intro t h hμ ht hh
    refine Ev.run [(.iload_n 3, 1), (.bipush 10, 2)] (pc' := 58) (L' := [some (.ref 3), some (.ref 105), some (.int (nI s)), some (.int (nI t))]) (S' := [.int (nI 10), .int (nI t)]) rfl (by decide +kernel) rfl ?_
    refine Ev.icmp_ge (off := 25) (tgt := 83) (by decide +kernel) (by decide) (fun h58 => ?_) (fun h58 => ?_)
    · have h58 : t ≥ 10 := zz_bG_t (by omega) (by omega) h58
      have ht10 : t = 10 := by omega
      refine Ev.weakL (L' := [some (.ref 3), some (.ref 105), some (.int (nI s)), none]) ⟨rfl, rfl, rfl, trivial⟩ ?_
      exact hout h (fun j hj => hh j (by omega))
    · have h58 : t < 10 := zz_bG_f (by omega) (by omega) h58
      refine Ev.run [(.aload_n 0, 1), (.getfield 32, 3), (.iload_n 2, 1)] (pc' := 66) (L' := [some (.ref 3), some (.ref 105), some (.int (nI s)), some (.int (nI t))]) (S' := [.int (nI s), .ref 19]) rfl (by decide +kernel) rfl ?_
      refine Ev.aald s (by decide +kernel) (rfl) (by decide) (rfl) (by omega) (by first | decide | omega) (zz_b20 s (by omega)) ?_
      refine Ev.run [(.iload_n 3, 1), (.aload_n 1, 1), (.getfield 32, 3), (.iload_n 2, 1)] (pc' := 73) (L' := [some (.ref 3), some (.ref 105), some (.int (nI s)), some (.int (nI t))]) (S' := [.int (nI s), .ref 121, .int (nI t), .ref (20 + s)]) rfl (by decide +kernel) rfl ?_
      refine Ev.aald s (by decide +kernel) (rfl) (by decide) (rfl) (by omega) (by first | decide | omega) (zz_b122 s (by omega)) ?_
      refine Ev.run [(.iload_n 3, 1)] (pc' := 75) (L' := [some (.ref 3), some (.ref 105), some (.int (nI s)), some (.int (nI t))]) (S' := [.int (nI t), .ref (122 + s), .int (nI t), .ref (20 + s)]) rfl (by decide +kernel) rfl ?_
      refine Ev.iald t (by decide +kernel) (zz_s122 s (by omega)) (rfl) (by omega) (by first | decide | omega) ?_
      refine Ev.iast t (by decide +kernel) (zz_s20 s (by omega)) (rfl) (by omega) (by first | decide | omega) ?_
      dsimp only
      refine Ev.run [(.iinc 3 1, 3)] (pc' := 80) (L' := [some (.ref 3), some (.ref 105), some (.int (nI s)), some (.int (nI t + 1))]) (S' := []) rfl (by decide +kernel) rfl ?_
      rw [nI_1 t]
      refine Ev.goto (off := (-25)) (tgt := 55) (by decide +kernel) (by decide) ?_
      rw [zz_cs_ne (x := 122 + s) (by omega), zz_cs_up]
      exact ih (t + 1) _ (by omega) (by omega) (fun j hj => by by_cases e : j = t; rw [e, zz_ups]; rw [zz_upn e]; exact hh j (by omega))

set_option maxRecDepth 100000 in
set_option maxHeartbeats 4000000 in
theorem l_tm_3_105 {sc : Nat × (Nat → Int32)} {d : Nat} (Y : Nat → Nat → Int32) (J : Nat → Nat → Int64) (s : Nat) (hs : s < 10) (Q : Option Value → zz_St → Prop) (hout : ∀ h : Nat → Int32, (∀ j, j < 12 → h j = Y (111 + s) j) → Ev sc (d + 3) 0 0 mX2_takeText 53 [some (.ref 3), some (.ref 105), some (.int (nI s)), none] [] (zz_SH, zz_cs Y (9 + s) h, J) Q) : ∀ (μ : Nat) (t : Nat) (h : Nat → Int32), 12 - t < μ → (t ≤ 12) → (∀ j, j < t → h j = Y (111 + s) j) →  Ev sc (d + 3) 0 0 mX2_takeText 25 [some (.ref 3), some (.ref 105), some (.int (nI s)), some (.int (nI t))] [] (zz_SH, zz_cs Y (9 + s) h, J) (Q) := by
  intro μ
  induction μ with
  | zero => intro t h hμ; exact absurd hμ (Nat.not_lt_zero _)
  | succ μ ih =>
    intro t h hμ ht hh
    refine Ev.run [(.iload_n 3, 1), (.bipush 12, 2)] (pc' := 28) (L' := [some (.ref 3), some (.ref 105), some (.int (nI s)), some (.int (nI t))]) (S' := [.int (nI 12), .int (nI t)]) rfl (by decide +kernel) rfl ?_
    refine Ev.icmp_ge (off := 25) (tgt := 53) (by decide +kernel) (by decide) (fun h28 => ?_) (fun h28 => ?_)
    · have h28 : t ≥ 12 := zz_bG_t (by omega) (by omega) h28
      have ht12 : t = 12 := by omega
      refine Ev.weakL (L' := [some (.ref 3), some (.ref 105), some (.int (nI s)), none]) ⟨rfl, rfl, rfl, trivial⟩ ?_
      exact hout h (fun j hj => hh j (by omega))
    · have h28 : t < 12 := zz_bG_f (by omega) (by omega) h28
      refine Ev.run [(.aload_n 0, 1), (.getfield 29, 3), (.iload_n 2, 1)] (pc' := 36) (L' := [some (.ref 3), some (.ref 105), some (.int (nI s)), some (.int (nI t))]) (S' := [.int (nI s), .ref 8]) rfl (by decide +kernel) rfl ?_
      refine Ev.aald s (by decide +kernel) (rfl) (by decide) (rfl) (by omega) (by first | decide | omega) (zz_b9 s (by omega)) ?_
      refine Ev.run [(.iload_n 3, 1), (.aload_n 1, 1), (.getfield 29, 3), (.iload_n 2, 1)] (pc' := 43) (L' := [some (.ref 3), some (.ref 105), some (.int (nI s)), some (.int (nI t))]) (S' := [.int (nI s), .ref 110, .int (nI t), .ref (9 + s)]) rfl (by decide +kernel) rfl ?_
      refine Ev.aald s (by decide +kernel) (rfl) (by decide) (rfl) (by omega) (by first | decide | omega) (zz_b111 s (by omega)) ?_
      refine Ev.run [(.iload_n 3, 1)] (pc' := 45) (L' := [some (.ref 3), some (.ref 105), some (.int (nI s)), some (.int (nI t))]) (S' := [.int (nI t), .ref (111 + s), .int (nI t), .ref (9 + s)]) rfl (by decide +kernel) rfl ?_
      refine Ev.iald t (by decide +kernel) (zz_s111 s (by omega)) (rfl) (by omega) (by first | decide | omega) ?_
      refine Ev.iast t (by decide +kernel) (zz_s9 s (by omega)) (rfl) (by omega) (by first | decide | omega) ?_
      dsimp only
      refine Ev.run [(.iinc 3 1, 3)] (pc' := 50) (L' := [some (.ref 3), some (.ref 105), some (.int (nI s)), some (.int (nI t + 1))]) (S' := []) rfl (by decide +kernel) rfl ?_
      rw [nI_1 t]
      refine Ev.goto (off := (-25)) (tgt := 25) (by decide +kernel) (by decide) ?_
      rw [zz_cs_ne (x := 111 + s) (by omega), zz_cs_up]
      exact ih (t + 1) _ (by omega) (by omega) (fun j hj => by by_cases e : j = t; rw [e, zz_ups]; rw [zz_upn e]; exact hh j (by omega))

set_option maxRecDepth 100000 in
set_option maxHeartbeats 4000000 in
theorem l_tt_3_105 {sc : Nat × (Nat → Int32)} {d : Nat} (I : Nat → Nat → Int32) (J : Nat → Nat → Int64) (hZ : CZ 105 I) : ∀ (μ : Nat) (s : Nat) (I1 : Nat → Nat → Int32), 10 - s < μ → (s ≤ 10) → (∀ c, (c < 9 ∨ 29 < c) → (c < 84 ∨ 103 < c) → c ≠ 19 → I1 c = I c) → (∀ t, t < s → TS 3 105 I I1 t) →  Ev sc (d + 3) 0 0 mX2_takeText 2 [some (.ref 3), some (.ref 105), some (.int (nI s)), none] [] (zz_SH, I1, J) (fun r σ => r = none ∧ ∃ I' : Nat → Nat → Int32, (∀ s, s < 10 → TS 3 105 I I' s) ∧ (∀ c, (c < 9 ∨ 29 < c) → (c < 84 ∨ 103 < c) → c ≠ 19 → c ≠ 3 → I' c = I c) ∧ (I' 3 11 = I 105 11 ∧ ∀ j, j ≠ 11 → I' 3 j = I 3 j) ∧ σ = (zz_SH, I', J)) := by
  intro μ
  induction μ with
  | zero => intro s I1 hμ; exact absurd hμ (Nat.not_lt_zero _)
  | succ μ ih =>
    intro s I1 hμ hs f1 f2
    refine Ev.run [(.iload_n 2, 1), (.bipush 10, 2)] (pc' := 5) (L' := [some (.ref 3), some (.ref 105), some (.int (nI s)), none]) (S' := [.int (nI 10), .int (nI s)]) rfl (by decide +kernel) rfl ?_
    refine Ev.icmp_ge (off := 84) (tgt := 89) (by decide +kernel) (by decide) (fun h5 => ?_) (fun h5 => ?_)
    · have h5 : s ≥ 10 := zz_bG_t (by omega) (by omega) h5
      have hs10 : s = 10 := by omega
      refine Ev.run [(.aload_n 0, 1), (.aload_n 1, 1), (.getfield 55, 3)] (pc' := 94) (L' := [some (.ref 3), some (.ref 105), some (.int (nI s)), none]) (S' := [.int (I1 105 11), .ref 3]) rfl (by decide +kernel) rfl ?_
      refine Ev.putf (idx := 55) rfl rfl rfl (by decide +kernel) (rfl) rfl ?_
      dsimp only
      exact Ev.vret rfl (by decide +kernel) (⟨rfl, _, fun t ht => by obtain ⟨b1, b2, b3⟩ := f2 t (by omega); exact ⟨b1.fr (by rw [zz_up_ne (by omega)]) (by rw [zz_up_ne (by omega)]) rfl rfl, fun p hp => by rw [zz_up_ne (by omega)]; exact b2 p hp, fun t2 ht2 => by rw [zz_up_ne (by omega)]; exact b3 t2 ht2⟩, fun c h1 h2 h5 h3 => by rw [zz_up_ne h3]; exact f1 c h1 h2 h5, ⟨by rw [zz_up_eq, zz_ups, f1 _ (by omega) (by omega) (by omega)], fun j hj => by rw [zz_up_eq, zz_upn hj, f1 _ (by omega) (by omega) (by omega)]⟩, rfl⟩)
    · have h5 : s < 10 := zz_bG_f (by omega) (by omega) h5
      obtain ⟨s1, hs1, hs2⟩ := hZ.2 s (by omega)
      refine Ev.run [(.aload_n 0, 1), (.getfield 24, 3), (.iload_n 2, 1)] (pc' := 13) (L' := [some (.ref 3), some (.ref 105), some (.int (nI s)), none]) (S' := [.int (nI s), .ref 7]) rfl (by decide +kernel) rfl ?_
      refine Ev.aald s (by decide +kernel) (rfl) (by decide) (rfl) (by omega) (by first | decide | omega) (zz_a84 s (by omega)) ?_
      refine Ev.run [(.aload_n 1, 1), (.getfield 24, 3), (.iload_n 2, 1)] (pc' := 19) (L' := [some (.ref 3), some (.ref 105), some (.int (nI s)), none]) (S' := [.int (nI s), .ref 109, .ref (84 + 2 * s)]) rfl (by decide +kernel) rfl ?_
      refine Ev.aald s (by decide +kernel) (rfl) (by decide) (rfl) (by omega) (by first | decide | omega) (zz_a186 s (by omega)) ?_
      refine Ev.callV0 mX4_take [.ref (186 + 2 * s)] [] _ rfl lk_RX2_76 (by decide +kernel) ((zz_r84 s (by omega)).1) rfl rfl rfl (Nat.le_of_ble_eq_true rfl) (c_X4_take I1 J (84 + 2 * s) 12 (186 + 2 * s) 12 s1 (zz_r84 s (by omega)) (zz_r186 s (by omega)) (show I1 (186 + 2 * s) 1 = nI s1 from by rw [f1 _ (by omega) (by omega) (by omega)]; exact hs2) hs1 (by omega) hs1) ?_
      rintro _ _ ⟨rfl, rfl⟩
      generalize hga : zz_sr I1 (84 + 2 * s) (zz_mix (I1 (186 + 2 * s + 1)) (I1 (84 + 2 * s + 1)) s1) s1 = X1
      have ea : RE X1 (84 + 2 * s) I1 (186 + 2 * s) := by rw [← hga]; exact RE_sr (show I1 (186 + 2 * s) 1 = nI s1 from by rw [f1 _ (by omega) (by omega) (by omega)]; exact hs2) hs1
      have oa : ∀ c, c ≠ 84 + 2 * s → c ≠ 84 + 2 * s + 1 → X1 c = I1 c := fun c h1 h2 => by rw [← hga]; exact zz_sr_o h1 h2
      show Ev _ _ _ _ _ 23 [some (.ref 3), some (.ref 105), some (.int (nI s)), none] [] (zz_SH, X1, J) _
      refine Ev.run [(.iconst 0, 1), (.istore_n 3, 1)] (pc' := 25) (L' := [some (.ref 3), some (.ref 105), some (.int (nI s)), some (.int (nI 0))]) (S' := []) rfl (by decide +kernel) rfl ?_
      rw [← zz_cs_id X1 (9 + s)]
      refine l_tm_3_105 X1 J s (by omega) _ ?_ 13 0 (X1 (9 + s)) (by omega) (by omega) (fun j hj => absurd hj (Nat.not_lt_zero j))
      intro h3 hh3
      show Ev _ _ _ _ _ 53 [some (.ref 3), some (.ref 105), some (.int (nI s)), none] [] (zz_SH, zz_cs X1 (9 + s) h3, J) _
      refine Ev.run [(.iconst 0, 1), (.istore_n 3, 1)] (pc' := 55) (L' := [some (.ref 3), some (.ref 105), some (.int (nI s)), some (.int (nI 0))]) (S' := []) rfl (by decide +kernel) rfl ?_
      rw [← zz_cs_id (zz_cs X1 (9 + s) h3) (20 + s)]
      refine l_tl_3_105 (zz_cs X1 (9 + s) h3) J s (by omega) _ ?_ 11 0 (zz_cs X1 (9 + s) h3 (20 + s)) (by omega) (by omega) (fun j hj => absurd hj (Nat.not_lt_zero j))
      intro h4 hh4
      show Ev _ _ _ _ _ 83 [some (.ref 3), some (.ref 105), some (.int (nI s)), none] [] (zz_SH, zz_cs (zz_cs X1 (9 + s) h3) (20 + s) h4, J) _
      refine Ev.run [(.iinc 2 1, 3)] (pc' := 86) (L' := [some (.ref 3), some (.ref 105), some (.int (nI s + 1)), none]) (S' := []) rfl (by decide +kernel) rfl ?_
      rw [nI_1 s]
      refine Ev.goto (off := (-84)) (tgt := 2) (by decide +kernel) (by decide) ?_
      refine ih (s + 1) _ (by omega) (by omega) (fun c h1 h2 h5 => by rw [zz_cs_ne (by omega), zz_cs_ne (by omega), oa c (by omega) (by omega)]; exact f1 c h1 h2 h5) (fun t ht => ?_)
      by_cases e : t = s
      · rw [e]
        refine ⟨ea.fr (by rw [zz_cs_ne (by omega), zz_cs_ne (by omega)]) (by rw [zz_cs_ne (by omega), zz_cs_ne (by omega)]) (f1 _ (by omega) (by omega) (by omega)).symm (f1 _ (by omega) (by omega) (by omega)).symm, fun p hp => ?_, fun t2 ht2 => ?_⟩
        · show zz_cs _ _ _ (9 + s) p = I (111 + s) p
          rw [zz_cs_ne (by omega), zz_cs_eq, hh3 p hp, oa _ (by omega) (by omega), f1 _ (by omega) (by omega) (by omega)]
        · show zz_cs _ _ _ (20 + s) t2 = I (122 + s) t2
          rw [zz_cs_eq, hh4 t2 ht2, zz_cs_ne (by omega), oa _ (by omega) (by omega), f1 _ (by omega) (by omega) (by omega)]
      · obtain ⟨b1, b2, b3⟩ := f2 t (by omega)
        refine ⟨b1.fr (by rw [zz_cs_ne (by omega), zz_cs_ne (by omega), oa _ (by omega) (by omega)]) (by rw [zz_cs_ne (by omega), zz_cs_ne (by omega), oa _ (by omega) (by omega)]) rfl rfl, fun p hp => ?_, fun t2 ht2 => ?_⟩
        · rw [zz_cs_ne (by omega), zz_cs_ne (by omega), oa _ (by omega) (by omega)]; exact b2 p hp
        · rw [zz_cs_ne (by omega), zz_cs_ne (by omega), oa _ (by omega) (by omega)]; exact b3 t2 ht2

set_option maxRecDepth 100000 in
set_option maxHeartbeats 4000000 in
theorem c_tt_3_105 {sc : Nat × (Nat → Int32)} {d : Nat} (I : Nat → Nat → Int32) (J : Nat → Nat → Int64) (hZ : CZ 105 I) : EvM sc (d + 3) 0 0 mX2_takeText [.ref 3, .ref 105] (zz_SH, I, J) (fun r σ => r = none ∧ ∃ I' : Nat → Nat → Int32, (∀ s, s < 10 → TS 3 105 I I' s) ∧ (∀ c, (c < 9 ∨ 29 < c) → (c < 84 ∨ 103 < c) → c ≠ 19 → c ≠ 3 → I' c = I c) ∧ (I' 3 11 = I 105 11 ∧ ∀ j, j ≠ 11 → I' 3 j = I 3 j) ∧ σ = (zz_SH, I', J)) := by
  refine EvM.of (by decide) rfl (Nat.le_of_ble_eq_true rfl) ?_
  show Ev _ _ _ _ _ 0 [some (.ref 3), some (.ref 105), none, none] [] (zz_SH, I, J) _
  refine Ev.run [(.iconst 0, 1), (.istore_n 2, 1)] (pc' := 2) (L' := [some (.ref 3), some (.ref 105), some (.int (nI 0)), none]) (S' := []) rfl (by decide +kernel) rfl ?_
  exact l_tt_3_105 I J hZ 11 0 I (by omega) (by omega) (fun _ _ _ _ => rfl) (fun t ht => absurd ht (Nat.not_lt_zero t))

set_option maxRecDepth 100000 in
set_option maxHeartbeats 4000000 in
theorem l_tp_3_206 {sc : Nat × (Nat → Int32)} {d : Nat} (I : Nat → Nat → Int32) (J : Nat → Nat → Int64) (hZ : CZ 206 I) : ∀ (μ : Nat) (p : Nat) (I1 : Nat → Nat → Int32), 12 - p < μ → (p ≤ 12) → (∀ c, (c < 36 ∨ 83 < c) → c ≠ 6 → I1 c = I c) → (TP 3 206 I I1 p) →  Ev sc (d + 3) 0 0 mX2_takePairs 2 [some (.ref 3), some (.ref 206), some (.int (nI p))] [] (zz_SH, I1, J) (fun r σ => r = none ∧ ∃ I' : Nat → Nat → Int32, TP 3 206 I I' 12 ∧ (∀ c, (c < 36 ∨ 83 < c) → c ≠ 6 → c ≠ 3 → I' c = I c) ∧ (I' 3 10 = I 206 10 ∧ ∀ j, j ≠ 10 → I' 3 j = I 3 j) ∧ σ = (zz_SH, I', J)) := by
  intro μ
  induction μ with
  | zero => intro p I1 hμ; exact absurd hμ (Nat.not_lt_zero _)
  | succ μ ih =>
    intro p I1 hμ hp f1 f2
    refine Ev.run [(.iload_n 2, 1), (.bipush 12, 2)] (pc' := 5) (L' := [some (.ref 3), some (.ref 206), some (.int (nI p))]) (S' := [.int (nI 12), .int (nI p)]) rfl (by decide +kernel) rfl ?_
    refine Ev.icmp_ge (off := 51) (tgt := 56) (by decide +kernel) (by decide) (fun h5 => ?_) (fun h5 => ?_)
    · have h5 : p ≥ 12 := zz_bG_t (by omega) (by omega) h5
      have hp12 : p = 12 := by omega
      refine Ev.run [(.aload_n 0, 1), (.aload_n 1, 1), (.getfield 51, 3)] (pc' := 61) (L' := [some (.ref 3), some (.ref 206), some (.int (nI p))]) (S' := [.int (I1 206 10), .ref 3]) rfl (by decide +kernel) rfl ?_
      refine Ev.putf (idx := 51) rfl rfl rfl (by decide +kernel) (rfl) rfl ?_
      dsimp only
      exact Ev.vret rfl (by decide +kernel) (⟨rfl, _, fun t ht => by obtain ⟨b1, b2, b3⟩ := f2 t (by omega); exact ⟨by rw [zz_up_ne (by omega)]; exact b1, b2.fr (by rw [zz_up_ne (by omega)]) (by rw [zz_up_ne (by omega)]) rfl rfl, b3.fr (by rw [zz_up_ne (by omega)]) (by rw [zz_up_ne (by omega)]) rfl rfl⟩, fun c h1 h2 h3 => by rw [zz_up_ne h3]; exact f1 c h1 h2, ⟨by rw [zz_up_eq, zz_ups, f1 _ (by omega) (by omega)], fun j hj => by rw [zz_up_eq, zz_upn hj, f1 _ (by omega) (by omega)]⟩, rfl⟩)
    · have h5 : p < 12 := zz_bG_f (by omega) (by omega) h5
      obtain ⟨⟨s1, hs1, hs2⟩, ⟨s3, hs3, hs4⟩⟩ := hZ.1 p (by omega)
      refine Ev.run [(.aload_n 0, 1), (.getfield 11, 3), (.iload_n 2, 1)] (pc' := 13) (L' := [some (.ref 3), some (.ref 206), some (.int (nI p))]) (S' := [.int (nI p), .ref 4]) rfl (by decide +kernel) rfl ?_
      refine Ev.aald p (by decide +kernel) (rfl) (by decide) (rfl) (by omega) (by first | decide | omega) (zz_a36 p (by omega)) ?_
      refine Ev.run [(.aload_n 1, 1), (.getfield 11, 3), (.iload_n 2, 1)] (pc' := 19) (L' := [some (.ref 3), some (.ref 206), some (.int (nI p))]) (S' := [.int (nI p), .ref 207, .ref (36 + 4 * p)]) rfl (by decide +kernel) rfl ?_
      refine Ev.aald p (by decide +kernel) (rfl) (by decide) (rfl) (by omega) (by first | decide | omega) (zz_a239 p (by omega)) ?_
      refine Ev.callV0 mX4_take [.ref (239 + 4 * p)] [] _ rfl lk_RX2_76 (by decide +kernel) ((zz_r36 p (by omega)).1) rfl rfl rfl (Nat.le_of_ble_eq_true rfl) (c_X4_take I1 J (36 + 4 * p) 12 (239 + 4 * p) 12 s1 (zz_r36 p (by omega)) (zz_r239 p (by omega)) (show I1 (239 + 4 * p) 1 = nI s1 from by rw [f1 _ (by omega) (by omega)]; exact hs2) hs1 (by omega) hs1) ?_
      rintro _ _ ⟨rfl, rfl⟩
      generalize hga : zz_sr I1 (36 + 4 * p) (zz_mix (I1 (239 + 4 * p + 1)) (I1 (36 + 4 * p + 1)) s1) s1 = X1
      have ea : RE X1 (36 + 4 * p) I1 (239 + 4 * p) := by rw [← hga]; exact RE_sr (show I1 (239 + 4 * p) 1 = nI s1 from by rw [f1 _ (by omega) (by omega)]; exact hs2) hs1
      have oa : ∀ c, c ≠ 36 + 4 * p → c ≠ 36 + 4 * p + 1 → X1 c = I1 c := fun c h1 h2 => by rw [← hga]; exact zz_sr_o h1 h2
      show Ev _ _ _ _ _ 23 [some (.ref 3), some (.ref 206), some (.int (nI p))] [] (zz_SH, X1, J) _
      refine Ev.run [(.aload_n 0, 1), (.getfield 17, 3), (.iload_n 2, 1)] (pc' := 28) (L' := [some (.ref 3), some (.ref 206), some (.int (nI p))]) (S' := [.int (nI p), .ref 5]) rfl (by decide +kernel) rfl ?_
      refine Ev.aald p (by decide +kernel) (rfl) (by decide) (rfl) (by omega) (by first | decide | omega) (zz_a38 p (by omega)) ?_
      refine Ev.run [(.aload_n 1, 1), (.getfield 17, 3), (.iload_n 2, 1)] (pc' := 34) (L' := [some (.ref 3), some (.ref 206), some (.int (nI p))]) (S' := [.int (nI p), .ref 208, .ref (38 + 4 * p)]) rfl (by decide +kernel) rfl ?_
      refine Ev.aald p (by decide +kernel) (rfl) (by decide) (rfl) (by omega) (by first | decide | omega) (zz_a241 p (by omega)) ?_
      refine Ev.callV0 mX4_take [.ref (241 + 4 * p)] [] _ rfl lk_RX2_76 (by decide +kernel) ((zz_r38 p (by omega)).1) rfl rfl rfl (Nat.le_of_ble_eq_true rfl) (c_X4_take X1 J (38 + 4 * p) 12 (241 + 4 * p) 12 s3 (zz_r38 p (by omega)) (zz_r241 p (by omega)) (show X1 (241 + 4 * p) 1 = nI s3 from by rw [oa _ (by omega) (by omega), f1 _ (by omega) (by omega)]; exact hs4) hs3 (by omega) hs3) ?_
      rintro _ _ ⟨rfl, rfl⟩
      generalize hgb : zz_sr X1 (38 + 4 * p) (zz_mix (X1 (241 + 4 * p + 1)) (X1 (38 + 4 * p + 1)) s3) s3 = X2
      have eb : RE X2 (38 + 4 * p) X1 (241 + 4 * p) := by rw [← hgb]; exact RE_sr (show X1 (241 + 4 * p) 1 = nI s3 from by rw [oa _ (by omega) (by omega), f1 _ (by omega) (by omega)]; exact hs4) hs3
      have ob9 : ∀ c, c ≠ 38 + 4 * p → c ≠ 38 + 4 * p + 1 → X2 c = X1 c := fun c h1 h2 => by rw [← hgb]; exact zz_sr_o h1 h2
      show Ev _ _ _ _ _ 38 [some (.ref 3), some (.ref 206), some (.int (nI p))] [] (zz_SH, X2, J) _
      refine Ev.run [(.aload_n 0, 1), (.getfield 20, 3), (.iload_n 2, 1), (.aload_n 1, 1), (.getfield 20, 3), (.iload_n 2, 1)] (pc' := 48) (L' := [some (.ref 3), some (.ref 206), some (.int (nI p))]) (S' := [.int (nI p), .ref 209, .int (nI p), .ref 6]) rfl (by decide +kernel) rfl ?_
      refine Ev.iald p (by decide +kernel) (rfl) (rfl) (by omega) (by first | decide | omega) ?_
      refine Ev.iast p (by decide +kernel) (rfl) (rfl) (by omega) (by first | decide | omega) ?_
      dsimp only
      refine Ev.run [(.iinc 2 1, 3)] (pc' := 53) (L' := [some (.ref 3), some (.ref 206), some (.int (nI p + 1))]) (S' := []) rfl (by decide +kernel) rfl ?_
      rw [nI_1 p]
      refine Ev.goto (off := (-51)) (tgt := 2) (by decide +kernel) (by decide) ?_
      refine ih (p + 1) _ (by omega) (by omega) (fun c h1 h2 => by rw [zz_up_ne (by omega), ob9 c (by omega) (by omega), oa c (by omega) (by omega)]; exact f1 c h1 h2) (fun t ht => ?_)
      by_cases e : t = p
      · rw [e]
        refine ⟨?_, ?_, ?_⟩
        · show zz_up X2 6 p _ 6 p = I 209 p
          rw [zz_up_eq, zz_ups, ob9 _ (by omega) (by omega), oa _ (by omega) (by omega), f1 _ (by omega) (by omega)]
        · exact ea.fr (by rw [zz_up_ne (by omega), ob9 _ (by omega) (by omega)]) (by rw [zz_up_ne (by omega), ob9 _ (by omega) (by omega)]) (f1 _ (by omega) (by omega)).symm (f1 _ (by omega) (by omega)).symm
        · exact eb.fr (by rw [zz_up_ne (by omega)]) (by rw [zz_up_ne (by omega)]) (by rw [oa _ (by omega) (by omega), f1 _ (by omega) (by omega)]) (by rw [oa _ (by omega) (by omega), f1 _ (by omega) (by omega)])
      · obtain ⟨b1, b2, b3⟩ := f2 t (by omega)
        refine ⟨?_, ?_, ?_⟩
        · show zz_up X2 6 p _ 6 t = _
          rw [zz_up_eq, zz_upn e, ob9 _ (by omega) (by omega), oa _ (by omega) (by omega)]; exact b1
        · exact b2.fr (by rw [zz_up_ne (by omega), ob9 _ (by omega) (by omega), oa _ (by omega) (by omega)]) (by rw [zz_up_ne (by omega), ob9 _ (by omega) (by omega), oa _ (by omega) (by omega)]) rfl rfl
        · exact b3.fr (by rw [zz_up_ne (by omega), ob9 _ (by omega) (by omega), oa _ (by omega) (by omega)]) (by rw [zz_up_ne (by omega), ob9 _ (by omega) (by omega), oa _ (by omega) (by omega)]) rfl rfl

set_option maxRecDepth 100000 in
set_option maxHeartbeats 4000000 in
theorem c_tp_3_206 {sc : Nat × (Nat → Int32)} {d : Nat} (I : Nat → Nat → Int32) (J : Nat → Nat → Int64) (hZ : CZ 206 I) : EvM sc (d + 3) 0 0 mX2_takePairs [.ref 3, .ref 206] (zz_SH, I, J) (fun r σ => r = none ∧ ∃ I' : Nat → Nat → Int32, TP 3 206 I I' 12 ∧ (∀ c, (c < 36 ∨ 83 < c) → c ≠ 6 → c ≠ 3 → I' c = I c) ∧ (I' 3 10 = I 206 10 ∧ ∀ j, j ≠ 10 → I' 3 j = I 3 j) ∧ σ = (zz_SH, I', J)) := by
  refine EvM.of (by decide) rfl (Nat.le_of_ble_eq_true rfl) ?_
  show Ev _ _ _ _ _ 0 [some (.ref 3), some (.ref 206), none] [] (zz_SH, I, J) _
  refine Ev.run [(.iconst 0, 1), (.istore_n 2, 1)] (pc' := 2) (L' := [some (.ref 3), some (.ref 206), some (.int (nI 0))]) (S' := []) rfl (by decide +kernel) rfl ?_
  exact l_tp_3_206 I J hZ 13 0 I (by omega) (by omega) (fun _ _ _ => rfl) (fun t ht => absurd ht (Nat.not_lt_zero t))

set_option maxRecDepth 100000 in
set_option maxHeartbeats 4000000 in
theorem l_tl_3_206 {sc : Nat × (Nat → Int32)} {d : Nat} (Y : Nat → Nat → Int32) (J : Nat → Nat → Int64) (s : Nat) (hs : s < 10) (Q : Option Value → zz_St → Prop) (hout : ∀ h : Nat → Int32, (∀ j, j < 10 → h j = Y (223 + s) j) → Ev sc (d + 3) 0 0 mX2_takeText 83 [some (.ref 3), some (.ref 206), some (.int (nI s)), none] [] (zz_SH, zz_cs Y (20 + s) h, J) Q) : ∀ (μ : Nat) (t : Nat) (h : Nat → Int32), 10 - t < μ → (t ≤ 10) → (∀ j, j < t → h j = Y (223 + s) j) →  Ev sc (d + 3) 0 0 mX2_takeText 55 [some (.ref 3), some (.ref 206), some (.int (nI s)), some (.int (nI t))] [] (zz_SH, zz_cs Y (20 + s) h, J) (Q) := by
  intro μ
  induction μ with
  | zero => intro t h hμ; exact absurd hμ (Nat.not_lt_zero _)
  | succ μ ih =>
    intro t h hμ ht hh
    refine Ev.run [(.iload_n 3, 1), (.bipush 10, 2)] (pc' := 58) (L' := [some (.ref 3), some (.ref 206), some (.int (nI s)), some (.int (nI t))]) (S' := [.int (nI 10), .int (nI t)]) rfl (by decide +kernel) rfl ?_
    refine Ev.icmp_ge (off := 25) (tgt := 83) (by decide +kernel) (by decide) (fun h58 => ?_) (fun h58 => ?_)
    · have h58 : t ≥ 10 := zz_bG_t (by omega) (by omega) h58
      have ht10 : t = 10 := by omega
      refine Ev.weakL (L' := [some (.ref 3), some (.ref 206), some (.int (nI s)), none]) ⟨rfl, rfl, rfl, trivial⟩ ?_
      exact hout h (fun j hj => hh j (by omega))
    · have h58 : t < 10 := zz_bG_f (by omega) (by omega) h58
      refine Ev.run [(.aload_n 0, 1), (.getfield 32, 3), (.iload_n 2, 1)] (pc' := 66) (L' := [some (.ref 3), some (.ref 206), some (.int (nI s)), some (.int (nI t))]) (S' := [.int (nI s), .ref 19]) rfl (by decide +kernel) rfl ?_
      refine Ev.aald s (by decide +kernel) (rfl) (by decide) (rfl) (by omega) (by first | decide | omega) (zz_b20 s (by omega)) ?_
      refine Ev.run [(.iload_n 3, 1), (.aload_n 1, 1), (.getfield 32, 3), (.iload_n 2, 1)] (pc' := 73) (L' := [some (.ref 3), some (.ref 206), some (.int (nI s)), some (.int (nI t))]) (S' := [.int (nI s), .ref 222, .int (nI t), .ref (20 + s)]) rfl (by decide +kernel) rfl ?_
      refine Ev.aald s (by decide +kernel) (rfl) (by decide) (rfl) (by omega) (by first | decide | omega) (zz_b223 s (by omega)) ?_
      refine Ev.run [(.iload_n 3, 1)] (pc' := 75) (L' := [some (.ref 3), some (.ref 206), some (.int (nI s)), some (.int (nI t))]) (S' := [.int (nI t), .ref (223 + s), .int (nI t), .ref (20 + s)]) rfl (by decide +kernel) rfl ?_
      refine Ev.iald t (by decide +kernel) (zz_s223 s (by omega)) (rfl) (by omega) (by first | decide | omega) ?_
      refine Ev.iast t (by decide +kernel) (zz_s20 s (by omega)) (rfl) (by omega) (by first | decide | omega) ?_
      dsimp only
      refine Ev.run [(.iinc 3 1, 3)] (pc' := 80) (L' := [some (.ref 3), some (.ref 206), some (.int (nI s)), some (.int (nI t + 1))]) (S' := []) rfl (by decide +kernel) rfl ?_
      rw [nI_1 t]
      refine Ev.goto (off := (-25)) (tgt := 55) (by decide +kernel) (by decide) ?_
      rw [zz_cs_ne (x := 223 + s) (by omega), zz_cs_up]
      exact ih (t + 1) _ (by omega) (by omega) (fun j hj => by by_cases e : j = t; rw [e, zz_ups]; rw [zz_upn e]; exact hh j (by omega))

set_option maxRecDepth 100000 in
set_option maxHeartbeats 4000000 in
theorem l_tm_3_206 {sc : Nat × (Nat → Int32)} {d : Nat} (Y : Nat → Nat → Int32) (J : Nat → Nat → Int64) (s : Nat) (hs : s < 10) (Q : Option Value → zz_St → Prop) (hout : ∀ h : Nat → Int32, (∀ j, j < 12 → h j = Y (212 + s) j) → Ev sc (d + 3) 0 0 mX2_takeText 53 [some (.ref 3), some (.ref 206), some (.int (nI s)), none] [] (zz_SH, zz_cs Y (9 + s) h, J) Q) : ∀ (μ : Nat) (t : Nat) (h : Nat → Int32), 12 - t < μ → (t ≤ 12) → (∀ j, j < t → h j = Y (212 + s) j) →  Ev sc (d + 3) 0 0 mX2_takeText 25 [some (.ref 3), some (.ref 206), some (.int (nI s)), some (.int (nI t))] [] (zz_SH, zz_cs Y (9 + s) h, J) (Q) := by
  intro μ
  induction μ with
  | zero => intro t h hμ; exact absurd hμ (Nat.not_lt_zero _)
  | succ μ ih =>
    intro t h hμ ht hh
    refine Ev.run [(.iload_n 3, 1), (.bipush 12, 2)] (pc' := 28) (L' := [some (.ref 3), some (.ref 206), some (.int (nI s)), some (.int (nI t))]) (S' := [.int (nI 12), .int (nI t)]) rfl (by decide +kernel) rfl ?_
    refine Ev.icmp_ge (off := 25) (tgt := 53) (by decide +kernel) (by decide) (fun h28 => ?_) (fun h28 => ?_)
    · have h28 : t ≥ 12 := zz_bG_t (by omega) (by omega) h28
      have ht12 : t = 12 := by omega
      refine Ev.weakL (L' := [some (.ref 3), some (.ref 206), some (.int (nI s)), none]) ⟨rfl, rfl, rfl, trivial⟩ ?_
      exact hout h (fun j hj => hh j (by omega))
    · have h28 : t < 12 := zz_bG_f (by omega) (by omega) h28
      refine Ev.run [(.aload_n 0, 1), (.getfield 29, 3), (.iload_n 2, 1)] (pc' := 36) (L' := [some (.ref 3), some (.ref 206), some (.int (nI s)), some (.int (nI t))]) (S' := [.int (nI s), .ref 8]) rfl (by decide +kernel) rfl ?_
      refine Ev.aald s (by decide +kernel) (rfl) (by decide) (rfl) (by omega) (by first | decide | omega) (zz_b9 s (by omega)) ?_
      refine Ev.run [(.iload_n 3, 1), (.aload_n 1, 1), (.getfield 29, 3), (.iload_n 2, 1)] (pc' := 43) (L' := [some (.ref 3), some (.ref 206), some (.int (nI s)), some (.int (nI t))]) (S' := [.int (nI s), .ref 211, .int (nI t), .ref (9 + s)]) rfl (by decide +kernel) rfl ?_
      refine Ev.aald s (by decide +kernel) (rfl) (by decide) (rfl) (by omega) (by first | decide | omega) (zz_b212 s (by omega)) ?_
      refine Ev.run [(.iload_n 3, 1)] (pc' := 45) (L' := [some (.ref 3), some (.ref 206), some (.int (nI s)), some (.int (nI t))]) (S' := [.int (nI t), .ref (212 + s), .int (nI t), .ref (9 + s)]) rfl (by decide +kernel) rfl ?_
      refine Ev.iald t (by decide +kernel) (zz_s212 s (by omega)) (rfl) (by omega) (by first | decide | omega) ?_
      refine Ev.iast t (by decide +kernel) (zz_s9 s (by omega)) (rfl) (by omega) (by first | decide | omega) ?_
      dsimp only
      refine Ev.run [(.iinc 3 1, 3)] (pc' := 50) (L' := [some (.ref 3), some (.ref 206), some (.int (nI s)), some (.int (nI t + 1))]) (S' := []) rfl (by decide +kernel) rfl ?_
      rw [nI_1 t]
      refine Ev.goto (off := (-25)) (tgt := 25) (by decide +kernel) (by decide) ?_
      rw [zz_cs_ne (x := 212 + s) (by omega), zz_cs_up]
      exact ih (t + 1) _ (by omega) (by omega) (fun j hj => by by_cases e : j = t; rw [e, zz_ups]; rw [zz_upn e]; exact hh j (by omega))

set_option maxRecDepth 100000 in
set_option maxHeartbeats 4000000 in
theorem l_tt_3_206 {sc : Nat × (Nat → Int32)} {d : Nat} (I : Nat → Nat → Int32) (J : Nat → Nat → Int64) (hZ : CZ 206 I) : ∀ (μ : Nat) (s : Nat) (I1 : Nat → Nat → Int32), 10 - s < μ → (s ≤ 10) → (∀ c, (c < 9 ∨ 29 < c) → (c < 84 ∨ 103 < c) → c ≠ 19 → I1 c = I c) → (∀ t, t < s → TS 3 206 I I1 t) →  Ev sc (d + 3) 0 0 mX2_takeText 2 [some (.ref 3), some (.ref 206), some (.int (nI s)), none] [] (zz_SH, I1, J) (fun r σ => r = none ∧ ∃ I' : Nat → Nat → Int32, (∀ s, s < 10 → TS 3 206 I I' s) ∧ (∀ c, (c < 9 ∨ 29 < c) → (c < 84 ∨ 103 < c) → c ≠ 19 → c ≠ 3 → I' c = I c) ∧ (I' 3 11 = I 206 11 ∧ ∀ j, j ≠ 11 → I' 3 j = I 3 j) ∧ σ = (zz_SH, I', J)) := by
  intro μ
  induction μ with
  | zero => intro s I1 hμ; exact absurd hμ (Nat.not_lt_zero _)
  | succ μ ih =>
    intro s I1 hμ hs f1 f2
    refine Ev.run [(.iload_n 2, 1), (.bipush 10, 2)] (pc' := 5) (L' := [some (.ref 3), some (.ref 206), some (.int (nI s)), none]) (S' := [.int (nI 10), .int (nI s)]) rfl (by decide +kernel) rfl ?_
    refine Ev.icmp_ge (off := 84) (tgt := 89) (by decide +kernel) (by decide) (fun h5 => ?_) (fun h5 => ?_)
    · have h5 : s ≥ 10 := zz_bG_t (by omega) (by omega) h5
      have hs10 : s = 10 := by omega
      refine Ev.run [(.aload_n 0, 1), (.aload_n 1, 1), (.getfield 55, 3)] (pc' := 94) (L' := [some (.ref 3), some (.ref 206), some (.int (nI s)), none]) (S' := [.int (I1 206 11), .ref 3]) rfl (by decide +kernel) rfl ?_
      refine Ev.putf (idx := 55) rfl rfl rfl (by decide +kernel) (rfl) rfl ?_
      dsimp only
      exact Ev.vret rfl (by decide +kernel) (⟨rfl, _, fun t ht => by obtain ⟨b1, b2, b3⟩ := f2 t (by omega); exact ⟨b1.fr (by rw [zz_up_ne (by omega)]) (by rw [zz_up_ne (by omega)]) rfl rfl, fun p hp => by rw [zz_up_ne (by omega)]; exact b2 p hp, fun t2 ht2 => by rw [zz_up_ne (by omega)]; exact b3 t2 ht2⟩, fun c h1 h2 h5 h3 => by rw [zz_up_ne h3]; exact f1 c h1 h2 h5, ⟨by rw [zz_up_eq, zz_ups, f1 _ (by omega) (by omega) (by omega)], fun j hj => by rw [zz_up_eq, zz_upn hj, f1 _ (by omega) (by omega) (by omega)]⟩, rfl⟩)
    · have h5 : s < 10 := zz_bG_f (by omega) (by omega) h5
      obtain ⟨s1, hs1, hs2⟩ := hZ.2 s (by omega)
      refine Ev.run [(.aload_n 0, 1), (.getfield 24, 3), (.iload_n 2, 1)] (pc' := 13) (L' := [some (.ref 3), some (.ref 206), some (.int (nI s)), none]) (S' := [.int (nI s), .ref 7]) rfl (by decide +kernel) rfl ?_
      refine Ev.aald s (by decide +kernel) (rfl) (by decide) (rfl) (by omega) (by first | decide | omega) (zz_a84 s (by omega)) ?_
      refine Ev.run [(.aload_n 1, 1), (.getfield 24, 3), (.iload_n 2, 1)] (pc' := 19) (L' := [some (.ref 3), some (.ref 206), some (.int (nI s)), none]) (S' := [.int (nI s), .ref 210, .ref (84 + 2 * s)]) rfl (by decide +kernel) rfl ?_
      refine Ev.aald s (by decide +kernel) (rfl) (by decide) (rfl) (by omega) (by first | decide | omega) (zz_a287 s (by omega)) ?_
      refine Ev.callV0 mX4_take [.ref (287 + 2 * s)] [] _ rfl lk_RX2_76 (by decide +kernel) ((zz_r84 s (by omega)).1) rfl rfl rfl (Nat.le_of_ble_eq_true rfl) (c_X4_take I1 J (84 + 2 * s) 12 (287 + 2 * s) 12 s1 (zz_r84 s (by omega)) (zz_r287 s (by omega)) (show I1 (287 + 2 * s) 1 = nI s1 from by rw [f1 _ (by omega) (by omega) (by omega)]; exact hs2) hs1 (by omega) hs1) ?_
      rintro _ _ ⟨rfl, rfl⟩
      generalize hga : zz_sr I1 (84 + 2 * s) (zz_mix (I1 (287 + 2 * s + 1)) (I1 (84 + 2 * s + 1)) s1) s1 = X1
      have ea : RE X1 (84 + 2 * s) I1 (287 + 2 * s) := by rw [← hga]; exact RE_sr (show I1 (287 + 2 * s) 1 = nI s1 from by rw [f1 _ (by omega) (by omega) (by omega)]; exact hs2) hs1
      have oa : ∀ c, c ≠ 84 + 2 * s → c ≠ 84 + 2 * s + 1 → X1 c = I1 c := fun c h1 h2 => by rw [← hga]; exact zz_sr_o h1 h2
      show Ev _ _ _ _ _ 23 [some (.ref 3), some (.ref 206), some (.int (nI s)), none] [] (zz_SH, X1, J) _
      refine Ev.run [(.iconst 0, 1), (.istore_n 3, 1)] (pc' := 25) (L' := [some (.ref 3), some (.ref 206), some (.int (nI s)), some (.int (nI 0))]) (S' := []) rfl (by decide +kernel) rfl ?_
      rw [← zz_cs_id X1 (9 + s)]
      refine l_tm_3_206 X1 J s (by omega) _ ?_ 13 0 (X1 (9 + s)) (by omega) (by omega) (fun j hj => absurd hj (Nat.not_lt_zero j))
      intro h3 hh3
      show Ev _ _ _ _ _ 53 [some (.ref 3), some (.ref 206), some (.int (nI s)), none] [] (zz_SH, zz_cs X1 (9 + s) h3, J) _
      refine Ev.run [(.iconst 0, 1), (.istore_n 3, 1)] (pc' := 55) (L' := [some (.ref 3), some (.ref 206), some (.int (nI s)), some (.int (nI 0))]) (S' := []) rfl (by decide +kernel) rfl ?_
      rw [← zz_cs_id (zz_cs X1 (9 + s) h3) (20 + s)]
      refine l_tl_3_206 (zz_cs X1 (9 + s) h3) J s (by omega) _ ?_ 11 0 (zz_cs X1 (9 + s) h3 (20 + s)) (by omega) (by omega) (fun j hj => absurd hj (Nat.not_lt_zero j))
      intro h4 hh4
      show Ev _ _ _ _ _ 83 [some (.ref 3), some (.ref 206), some (.int (nI s)), none] [] (zz_SH, zz_cs (zz_cs X1 (9 + s) h3) (20 + s) h4, J) _
      refine Ev.run [(.iinc 2 1, 3)] (pc' := 86) (L' := [some (.ref 3), some (.ref 206), some (.int (nI s + 1)), none]) (S' := []) rfl (by decide +kernel) rfl ?_
      rw [nI_1 s]
      refine Ev.goto (off := (-84)) (tgt := 2) (by decide +kernel) (by decide) ?_
      refine ih (s + 1) _ (by omega) (by omega) (fun c h1 h2 h5 => by rw [zz_cs_ne (by omega), zz_cs_ne (by omega), oa c (by omega) (by omega)]; exact f1 c h1 h2 h5) (fun t ht => ?_)
      by_cases e : t = s
      · rw [e]
        refine ⟨ea.fr (by rw [zz_cs_ne (by omega), zz_cs_ne (by omega)]) (by rw [zz_cs_ne (by omega), zz_cs_ne (by omega)]) (f1 _ (by omega) (by omega) (by omega)).symm (f1 _ (by omega) (by omega) (by omega)).symm, fun p hp => ?_, fun t2 ht2 => ?_⟩
        · show zz_cs _ _ _ (9 + s) p = I (212 + s) p
          rw [zz_cs_ne (by omega), zz_cs_eq, hh3 p hp, oa _ (by omega) (by omega), f1 _ (by omega) (by omega) (by omega)]
        · show zz_cs _ _ _ (20 + s) t2 = I (223 + s) t2
          rw [zz_cs_eq, hh4 t2 ht2, zz_cs_ne (by omega), oa _ (by omega) (by omega), f1 _ (by omega) (by omega) (by omega)]
      · obtain ⟨b1, b2, b3⟩ := f2 t (by omega)
        refine ⟨b1.fr (by rw [zz_cs_ne (by omega), zz_cs_ne (by omega), oa _ (by omega) (by omega)]) (by rw [zz_cs_ne (by omega), zz_cs_ne (by omega), oa _ (by omega) (by omega)]) rfl rfl, fun p hp => ?_, fun t2 ht2 => ?_⟩
        · rw [zz_cs_ne (by omega), zz_cs_ne (by omega), oa _ (by omega) (by omega)]; exact b2 p hp
        · rw [zz_cs_ne (by omega), zz_cs_ne (by omega), oa _ (by omega) (by omega)]; exact b3 t2 ht2

set_option maxRecDepth 100000 in
set_option maxHeartbeats 4000000 in
theorem c_tt_3_206 {sc : Nat × (Nat → Int32)} {d : Nat} (I : Nat → Nat → Int32) (J : Nat → Nat → Int64) (hZ : CZ 206 I) : EvM sc (d + 3) 0 0 mX2_takeText [.ref 3, .ref 206] (zz_SH, I, J) (fun r σ => r = none ∧ ∃ I' : Nat → Nat → Int32, (∀ s, s < 10 → TS 3 206 I I' s) ∧ (∀ c, (c < 9 ∨ 29 < c) → (c < 84 ∨ 103 < c) → c ≠ 19 → c ≠ 3 → I' c = I c) ∧ (I' 3 11 = I 206 11 ∧ ∀ j, j ≠ 11 → I' 3 j = I 3 j) ∧ σ = (zz_SH, I', J)) := by
  refine EvM.of (by decide) rfl (Nat.le_of_ble_eq_true rfl) ?_
  show Ev _ _ _ _ _ 0 [some (.ref 3), some (.ref 206), none, none] [] (zz_SH, I, J) _
  refine Ev.run [(.iconst 0, 1), (.istore_n 2, 1)] (pc' := 2) (L' := [some (.ref 3), some (.ref 206), some (.int (nI 0)), none]) (S' := []) rfl (by decide +kernel) rfl ?_
  exact l_tt_3_206 I J hZ 11 0 I (by omega) (by omega) (fun _ _ _ _ => rfl) (fun t ht => absurd ht (Nat.not_lt_zero t))
