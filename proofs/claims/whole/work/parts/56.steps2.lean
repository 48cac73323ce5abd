/-! ===== every call answers alike: second half ===== -/
abbrev zU (A : zA) (a' b' : Nat) (rt' : Nat → Nat) (mu' : Nat → Option Nat) (la' lb' : Nat → Nat) : zA := ((aN A, aM A, a', b'), A.2.1, A.2.2.1, aB A, rt', mu', la', lb')
theorem CR.set {I I' : Nat → Nat → Int32} {A : zA} {a' b' : Nat} {rt' : Nat → Nat} {mu' : Nat → Option Nat} {la' lb' : Nat → Nat} (hW : WF A) (h : CR 3 I A) (hc : ∀ c, 3 ≤ c → c ≤ 103 → (c < 30 ∨ 35 < c) → I' c = I c) (h5 : ∀ r, r < 5 → I' 30 r = nI (rt' r)) (h6 : ∀ w, w < 16 → I' 31 w = ob (mu' w)) (h7 : zz_rf I' 32 a' la') (h8 : zz_rf I' 34 b' lb') : CR 3 I' (zU A a' b' rt' mu' la' lb') := by
  have w1 := hW.1.1
  have w2 := hW.1.2.1
  obtain ⟨⟨⟨v1, v2⟩, v3, v4, v5, v6, v7, v8⟩, hT, hZ⟩ := h
  refine ⟨⟨⟨?_, ?_⟩, fun p hp => ?_, fun s hs => ?_, h5, h6, h7, h8⟩, fun s hs => ⟨fun p hp => ?_, fun t ht => ?_⟩, hZ.fr (fun c h1 h2 => hc c (by omega) (by omega) (by omega))⟩
  · rw [hc 3 (by omega) (by omega) (by omega)]; exact v1
  · rw [hc 3 (by omega) (by omega) (by omega)]; exact v2
  · have hp : p < aN A := hp
    obtain ⟨a1, a2, a3⟩ := v3 p hp
    exact ⟨by rw [hc _ (by omega) (by omega) (by omega)]; exact a1, a2.fr (hc _ (by omega) (by omega) (by omega)) (hc _ (by omega) (by omega) (by omega)), a3.fr (hc _ (by omega) (by omega) (by omega)) (hc _ (by omega) (by omega) (by omega))⟩
  · have hs : s < aM A := hs
    exact (v4 s hs).fr (hc _ (by omega) (by omega) (by omega)) (hc _ (by omega) (by omega) (by omega))
  · have hs : s < aM A := hs
    rw [hc _ (by omega) (by omega) (by omega)]
    exact (hT s hs).1 p hp
  · have hs : s < aM A := hs
    rw [hc _ (by omega) (by omega) (by omega)]
    exact (hT s hs).2 t ht
theorem MV.set {I I' : Nat → Nat → Int32} {A : zA} {a' b' : Nat} {rt' : Nat → Nat} {mu' : Nat → Option Nat} {la' lb' : Nat → Nat} (h : MV (zVm I) A) (f0 : I' 359 2 = I 359 2) (f1 : I' 359 8 = I 359 8) (hc : ∀ c, 361 ≤ c → c ≤ 367 → I' c = I c) (h5 : ∀ r, r < 5 → I' 368 r = nI (rt' r)) (h6 : ∀ w, w < 16 → I' 369 w = ob (mu' w)) (ha : I' 370 0 = nI a') (hb : I' 370 1 = nI b') (h7 : ∀ j, j < a' → I' 371 j = nI (la' j)) (h8 : ∀ j, j < b' → I' 371 (12 + j) = nI (lb' j)) : MV (zVm I') (zU A a' b' rt' mu' la' lb') := by
  obtain ⟨⟨v1, v2, v3, v4⟩, v5, v6, -⟩ := h
  refine ⟨⟨f0.trans v1, f1.trans v2, ha, hb⟩, fun p hp => ?_, fun s hs => ?_, h5, h6, h7, h8⟩
  · obtain ⟨a1, a2, a3, a4, a5⟩ := v5 p hp
    refine ⟨?_, ?_, ?_, fun j hj => ?_, fun j hj => ?_⟩
    · show I' 361 p = _; rw [hc 361 (by decide) (by decide)]; exact a1
    · show I' 362 p = _; rw [hc 362 (by decide) (by decide)]; exact a2
    · show I' 363 p = _; rw [hc 363 (by decide) (by decide)]; exact a3
    · show I' 364 _ = _; rw [hc 364 (by decide) (by decide)]; exact a4 j hj
    · show I' 365 _ = _; rw [hc 365 (by decide) (by decide)]; exact a5 j hj
  · obtain ⟨a1, a2⟩ := v6 s hs
    refine ⟨?_, fun j hj => ?_⟩
    · show I' 366 s = _; rw [hc 366 (by decide) (by decide)]; exact a1
    · show I' 367 _ = _; rw [hc 367 (by decide) (by decide)]; exact a2 j hj
theorem WF.set {A : zA} {a' b' : Nat} {rt' : Nat → Nat} {mu' : Nat → Option Nat} {la' lb' : Nat → Nat} (h : WF A) (ha : a' ≤ 12) (hb : b' ≤ 12) (h5 : ∀ r, r < 5 → rt' r ≤ 99) (h6 : ∀ w, w < 16 → ∀ x, mu' w = some x → x < 16) (h7 : ∀ j, j < a' → 1 ≤ la' j ∧ la' j ≤ 99) (h8 : ∀ j, j < b' → 1 ≤ lb' j ∧ lb' j ≤ 99) : WF (zU A a' b' rt' mu' la' lb') := ⟨⟨h.1.1, h.1.2.1, ha, hb⟩, h.2.1, h.2.2.1, h5, h6, h7, h8⟩
section ZS2
variable {sc : Nat × (Nat → Int32)} {X : zX}
theorem s_rate (hX : IW X) (x y : Int32) : STi sc mX6_rate mX7_rate [.int x, .int y] X := by
  obtain ⟨wA, wB⟩ := hX
  by_cases h : zz_ix x 5 ∧ zz_ix y 100
  · obtain ⟨⟨b, hb, rfl⟩, v, hv, rfl⟩ := h
    refine ⟨nI (rt X.1 b), (zU X.1 (aa X.1) (ab X.1) (fun r => if r = b then v else rt X.1 r) (mu X.1) (la X.1) (lb X.1), X.2.1, X.2.2), ⟨wA.set wA.1.2.2.1 wA.1.2.2.2 (fun r hr => ?_) wA.2.2.2.2.1 wA.2.2.2.2.2.1 wA.2.2.2.2.2.2, wB⟩, fun I J hI => (c_X6_rate_k (d := 10) I J X.1 hI.1 wA b v hb hv).imp ?_, fun I J hI => (c_X7_rate_k (d := 9) I J X.1 hI.1 wA b v hb hv).imp ?_⟩
    · show (if r = b then v else rt X.1 r) ≤ 99
      by_cases e : r = b
      · rw [if_pos e]; omega
      · rw [if_neg e]; exact wA.2.2.2.1 r hr
    · rintro _ _ ⟨rfl, rfl⟩
      refine ⟨rfl, zz_up I 30 b (nI v), J, hI.gen ⟨wA, wB⟩ (fun c h1 h2 => zz_up_ne (by omega)) (hI.2.1.fr (zz_up_ne (by decide)) (zz_up_ne (by decide))) (hI.1.set wA (fun c h1 h2 h3 => zz_up_ne (by omega)) (fun r hr => ?_) (fun w hw => by rw [zz_up_ne (by decide)]; exact hI.1.1.2.2.2.2.1 w hw) (hI.1.1.2.2.2.2.2.1.fr (zz_up_ne (by decide)) (zz_up_ne (by decide))) (hI.1.1.2.2.2.2.2.2.fr (zz_up_ne (by decide)) (zz_up_ne (by decide)))), fun c hc => zz_up_ne (by omega), rfl⟩
      show _ = nI (if r = b then v else rt X.1 r)
      rw [zz_up_eq]
      by_cases e : r = b
      · rw [if_pos e, e, zz_ups]
      · rw [if_neg e, zz_upn e]; exact hI.1.1.2.2.2.1 r hr
    · rintro _ _ ⟨rfl, rfl⟩
      refine ⟨rfl, zz_up I 368 b (nI v), J, hI.gen (hI.1.set (by rw [zz_up_ne (by decide)]) (by rw [zz_up_ne (by decide)]) (fun c h1 h2 => zz_up_ne (by omega)) (fun r hr => ?_) (fun w hw => by rw [zz_up_ne (by decide)]; exact hI.1.2.2.2.2.1 w hw) (by rw [zz_up_ne (by decide)]; exact hI.1.1.2.2.1) (by rw [zz_up_ne (by decide)]; exact hI.1.1.2.2.2) (fun j hj => by rw [zz_up_ne (by decide)]; exact hI.1.2.2.2.2.2.1 j hj) (fun j hj => by rw [zz_up_ne (by decide)]; exact hI.1.2.2.2.2.2.2 j hj)) (zz_up_ne (by decide)) (zz_up_ne (by decide)) ⟨by rw [zz_up_ne (by decide)]; exact hI.2.1.1, fun j hj => by rw [zz_up_ne (by decide)]; exact hI.2.1.2 j hj⟩, fun c hc => zz_up_ne (by omega), rfl⟩
      show _ = nI (if r = b then v else rt X.1 r)
      rw [zz_up_eq]
      by_cases e : r = b
      · rw [if_pos e, e, zz_ups]
      · rw [if_neg e, zz_upn e]; exact hI.1.2.2.2.1 r hr
  · exact ⟨-2, X, ⟨wA, wB⟩, CL.q fun I J hI => c_X6_rate_o (d := 10) I J x y h, ML.q fun I J hI => c_X7_rate_o (d := 9) I J x y h⟩
theorem s_mustk (hX : IW X) (w : Nat) (hw : w < 16) (y : Int32) (o : Option Nat) (ho : ∀ a, o = some a → a < 16) (h6 : ∀ (I : Nat → Nat → Int32) (J : Nat → Nat → Int64), IC I X → EvM sc 10 0 0 mX6_must [.ref 0, .int (nI w), .int y] (zz_SH, I, J) (zz_is (.int (ob (mu X.1 w))) (zz_SH, zz_up I 31 w (ob o), J))) (h7 : ∀ (I : Nat → Nat → Int32) (J : Nat → Nat → Int64), IOm I X → EvM sc 10 0 0 mX7_must [.ref 359, .int (nI w), .int y] (zz_SH, I, J) (zz_is (.int (ob (mu X.1 w))) (zz_SH, zz_up I 369 w (ob o), J))) : STi sc mX6_must mX7_must [.int (nI w), .int y] X := by
  obtain ⟨wA, wB⟩ := hX
  refine ⟨ob (mu X.1 w), (zU X.1 (aa X.1) (ab X.1) (rt X.1) (fun r => if r = w then o else mu X.1 r) (la X.1) (lb X.1), X.2.1, X.2.2), ⟨wA.set wA.1.2.2.1 wA.1.2.2.2 wA.2.2.2.1 (fun r hr x hx => ?_) wA.2.2.2.2.2.1 wA.2.2.2.2.2.2, wB⟩, fun I J hI => (h6 I J hI).imp ?_, fun I J hI => (h7 I J hI).imp ?_⟩
  · have hx : (if r = w then o else mu X.1 r) = some x := hx
    by_cases e : r = w
    · rw [if_pos e] at hx; exact ho x hx
    · rw [if_neg e] at hx; exact wA.2.2.2.2.1 r hr x hx
  · rintro _ _ ⟨rfl, rfl⟩
    refine ⟨rfl, zz_up I 31 w (ob o), J, hI.gen ⟨wA, wB⟩ (fun c h1 h2 => zz_up_ne (by omega)) (hI.2.1.fr (zz_up_ne (by decide)) (zz_up_ne (by decide))) (hI.1.set wA (fun c h1 h2 h3 => zz_up_ne (by omega)) (fun r hr => by rw [zz_up_ne (by decide)]; exact hI.1.1.2.2.2.1 r hr) (fun r hr => ?_) (hI.1.1.2.2.2.2.2.1.fr (zz_up_ne (by decide)) (zz_up_ne (by decide))) (hI.1.1.2.2.2.2.2.2.fr (zz_up_ne (by decide)) (zz_up_ne (by decide)))), fun c hc => zz_up_ne (by omega), rfl⟩
    show _ = ob (if r = w then o else mu X.1 r)
    rw [zz_up_eq]
    by_cases e : r = w
    · rw [if_pos e, e, zz_ups]
    · rw [if_neg e, zz_upn e]; exact hI.1.1.2.2.2.2.1 r hr
  · rintro _ _ ⟨rfl, rfl⟩
    refine ⟨rfl, zz_up I 369 w (ob o), J, hI.gen (hI.1.set (by rw [zz_up_ne (by decide)]) (by rw [zz_up_ne (by decide)]) (fun c h1 h2 => zz_up_ne (by omega)) (fun r hr => by rw [zz_up_ne (by decide)]; exact hI.1.2.2.2.1 r hr) (fun r hr => ?_) (by rw [zz_up_ne (by decide)]; exact hI.1.1.2.2.1) (by rw [zz_up_ne (by decide)]; exact hI.1.1.2.2.2) (fun j hj => by rw [zz_up_ne (by decide)]; exact hI.1.2.2.2.2.2.1 j hj) (fun j hj => by rw [zz_up_ne (by decide)]; exact hI.1.2.2.2.2.2.2 j hj)) (zz_up_ne (by decide)) (zz_up_ne (by decide)) ⟨by rw [zz_up_ne (by decide)]; exact hI.2.1.1, fun j hj => by rw [zz_up_ne (by decide)]; exact hI.2.1.2 j hj⟩, fun c hc => zz_up_ne (by omega), rfl⟩
    show _ = ob (if r = w then o else mu X.1 r)
    rw [zz_up_eq]
    by_cases e : r = w
    · rw [if_pos e, e, zz_ups]
    · rw [if_neg e, zz_upn e]; exact hI.1.2.2.2.2.1 r hr
theorem s_must (hX : IW X) (x y : Int32) : STi sc mX6_must mX7_must [.int x, .int y] X := by
  by_cases hx : zz_ix x 16
  · obtain ⟨w, hw, rfl⟩ := hx
    by_cases hy1 : y = -1
    · subst hy1
      exact s_mustk hX w hw (-1) none (fun a h => by cases h) (fun I J hI => c_X6_must_n (d := 9) I J X.1 hI.1 hX.1 w hw) (fun I J hI => c_X7_must_n (d := 8) I J X.1 hI.1 hX.1 w hw)
    · by_cases hy : zz_ix y 16
      · obtain ⟨a, ha, rfl⟩ := hy
        exact s_mustk hX w hw (nI a) (some a) (fun b h => by cases h; exact ha) (fun I J hI => c_X6_must_s (d := 9) I J X.1 hI.1 hX.1 w a hw ha) (fun I J hI => c_X7_must_s (d := 8) I J X.1 hI.1 hX.1 w a hw ha)
      · exact ⟨-2, X, hX, CL.q fun I J hI => c_X6_must_o (d := 9) I J w hw y hy1 hy, ML.q fun I J hI => c_X7_must_o (d := 8) I J w hw y (fun q => (zz_m115.mp q).elim hy1 hy)⟩
  · exact ⟨-1, X, hX, CL.q fun I J hI => c_X6_must_u (d := 9) I J x y hx, ML.q fun I J hI => c_X7_must_u (d := 8) I J x y hx⟩
theorem s_otherwise (hX : IW X) (x y z : Int32) : STi sc mX6_otherwise mX7_otherwise [.int x, .int y, .int z] X := by
  by_cases h : zz_ix x 16 ∧ zz_ix y 16 ∧ zz_ix z 16
  · obtain ⟨⟨w, hw, rfl⟩, ⟨u, hu, rfl⟩, b, hb, rfl⟩ := h
    by_cases hub : u = b
    · exact ⟨_, X, hX, CL.q fun I J hI => c_X6_otherwise_e (d := 6) I J X.1 hI.1 hX.1 w u b hw hu hb hub, ML.q fun I J hI => c_X7_otherwise_e (d := 8) I J X.1 hI.1 hX.1 w u b hw hu hb hub⟩
    · refine ⟨nI (oc X.1 w u (aN X.1)), (setG X.1 (otg X.1 w u b), X.2.1, X.2.2), ⟨WF_setG hX.1 (fun t ht j hj => ?_), hX.2⟩, fun I J hI => (c_X6_otherwise_k (d := 6) I J X.1 hI.1 hX.1 w u b hw hu hb hub).imp ?_, fun I J hI => (c_X7_otherwise_k (d := 8) I J X.1 hI.1 hX.1 w u b hw hu hb hub).imp ?_⟩
      · unfold otg
        split
        · omega
        · exact (hX.1.2.1 t ht).2.2.1 j hj
      · rintro _ _ ⟨rfl, I', hC, hk, rfl⟩
        exact ⟨rfl, I', J, hI.gen hX (fun c h1 h2 => hk c (fun t ht => by omega)) (hI.2.1.fr (hk 1 (fun t ht => by omega)) (hk 2 (fun t ht => by omega))) hC, fun c hc => hk c (fun t ht => by omega), rfl⟩
      · rintro _ _ ⟨rfl, I', hk, hV, rfl⟩
        exact ⟨rfl, I', J, hI.gen hV (hk 379 (by decide)) (hk 380 (by decide)) ⟨by rw [hk 359 (by decide)]; exact hI.2.1.1, fun j hj => by rw [hk 360 (by decide)]; exact hI.2.1.2 j hj⟩, fun c hc => hk c (by omega), rfl⟩
  · exact ⟨-1, X, hX, CL.q fun I J hI => c_X6_otherwise_u (d := 6) I J x y z h, ML.q fun I J hI => c_X7_otherwise_u (d := 8) I J x y z h⟩
theorem clr_one {A : zA} {x y : Int32} (hx : clr A x) (hy : clr A y) : x = y := by
  rcases hx with ⟨rfl, h1⟩ | ⟨p, q, h1, h2, h3, rfl, h4⟩
  · rcases hy with ⟨rfl, -⟩ | ⟨p, q, g1, g2, g3, -, -⟩
    · rfl
    · exact absurd g3 (h1 p q g1 g2)
  · rcases hy with ⟨rfl, g⟩ | ⟨p', q', g1, g2, g3, rfl, g4⟩
    · exact absurd h3 (g p q h1 h2)
    · have e : p = p' ∧ q = q' := by
        apply Classical.byContradiction
        intro ne
        by_cases c : p' < p ∨ (p' = p ∧ q' < q)
        · exact h4 p' q' g1 g2 c g3
        · exact g4 p q h1 h2 (by omega) h3
      rw [e.1, e.2]
theorem s_clash (hX : IW X) : STi sc mX6_clash mX7_clash [] X := by
  refine ⟨Classical.epsilon (clr X.1), X, hX, fun I J hI => (c_X6_clash (d := 8) I J X.1 hI.1 hX.1).imp ?_, fun I J hI => (c_X7_clash (d := 9) I J X.1 hI.1 hX.1).imp ?_⟩
  · rintro _ _ ⟨rfl, x, rfl, hx⟩
    exact ⟨by rw [clr_one hx (Classical.epsilon_spec ⟨x, hx⟩)], I, J, hI, fun _ _ => rfl, rfl⟩
  · rintro _ _ ⟨rfl, x, rfl, hx⟩
    exact ⟨by rw [clr_one hx (Classical.epsilon_spec ⟨x, hx⟩)], I, J, hI, fun _ _ => rfl, rfl⟩
theorem s_length (hX : IW X) (x y : Int32) : STi sc mX6_length mX7_length [.int x, .int y] X := by
  obtain ⟨wA, wB⟩ := hX
  by_cases h : zz_ix x 2 ∧ (nI 1 ≤ y ∧ y ≤ nI 99)
  · obtain ⟨hx, hy⟩ := h
    have l3 := wA.1.2.2.1
    have l4 := wA.1.2.2.2
    rcases zz_ix2 hx with rfl | rfl
    · rcases Nat.lt_or_ge (aa X.1) 12 with hm | hm
      · obtain ⟨k, rfl, hk1, hk2⟩ := zz_rgx (by decide) (by decide) hy
        refine ⟨nI (aa X.1 + 1), (zU X.1 (aa X.1 + 1) (ab X.1) (rt X.1) (mu X.1) (fun j => if j = aa X.1 then k else la X.1 j) (lb X.1), X.2.1, X.2.2), ⟨wA.set (by omega) wA.1.2.2.2 wA.2.2.2.1 wA.2.2.2.2.1 (fun j hj => ?_) wA.2.2.2.2.2.2, wB⟩, fun I J hI => (c_X6_length_k0 (d := 9) I J (aa X.1) hI.1.1.2.2.2.2.2.1.1 l3 _ hy hm).imp ?_, fun I J hI => (c_X7_length_k0 (d := 9) I J (aa X.1) hI.1.1.2.2.1 l3 _ hy hm).imp ?_⟩
        · show 1 ≤ (if j = aa X.1 then k else la X.1 j) ∧ (if j = aa X.1 then k else la X.1 j) ≤ 99
          by_cases e : j = aa X.1
          · rw [if_pos e]; exact ⟨hk1, hk2⟩
          · rw [if_neg e]; exact wA.2.2.2.2.2.1 j (by omega)
        · rintro _ _ ⟨rfl, rfl⟩
          refine ⟨rfl, zz_up (zz_up I (32 + 1) (aa X.1) (nI k)) 32 1 (nI (aa X.1 + 1)), J, hI.gen ⟨wA, wB⟩ (fun c h1 h2 => by rw [zz_up_ne (by omega), zz_up_ne (by omega)]) (hI.2.1.fr (by rw [zz_up_ne (by decide), zz_up_ne (by decide)]) (by rw [zz_up_ne (by decide), zz_up_ne (by decide)])) (hI.1.set wA (fun c h1 h2 h3 => by rw [zz_up_ne (by omega), zz_up_ne (by omega)]) (fun r hr => by rw [zz_up_ne (by decide), zz_up_ne (by decide)]; exact hI.1.1.2.2.2.1 r hr) (fun w hw => by rw [zz_up_ne (by decide), zz_up_ne (by decide)]; exact hI.1.1.2.2.2.2.1 w hw) ⟨by rw [zz_up_eq, zz_ups], fun j hj => ?_⟩ (hI.1.1.2.2.2.2.2.2.fr (by rw [zz_up_ne (by decide), zz_up_ne (by decide)]) (by rw [zz_up_ne (by decide), zz_up_ne (by decide)]))), fun c hc => by rw [zz_up_ne (by omega), zz_up_ne (by omega)], rfl⟩
          show _ = nI (if j = aa X.1 then k else la X.1 j)
          rw [zz_up_ne (by decide), zz_up_eq]
          by_cases e : j = aa X.1
          · rw [if_pos e, e, zz_ups]
          · rw [if_neg e, zz_upn e]; exact hI.1.1.2.2.2.2.2.1.2 j (by omega)
        · rintro _ _ ⟨rfl, rfl⟩
          refine ⟨rfl, zz_up (zz_up I 371 (12 * 0 + aa X.1) (nI k)) 370 0 (nI (aa X.1 + 1)), J, hI.gen (hI.1.set (by rw [zz_up_ne (by decide), zz_up_ne (by decide)]) (by rw [zz_up_ne (by decide), zz_up_ne (by decide)]) (fun c h1 h2 => by rw [zz_up_ne (by omega), zz_up_ne (by omega)]) (fun r hr => by rw [zz_up_ne (by decide), zz_up_ne (by decide)]; exact hI.1.2.2.2.1 r hr) (fun w hw => by rw [zz_up_ne (by decide), zz_up_ne (by decide)]; exact hI.1.2.2.2.2.1 w hw) (by rw [zz_up_eq, zz_ups]) (by rw [zz_up_eq, zz_upn (by decide), zz_up_ne (by decide)]; exact hI.1.1.2.2.2) (fun j hj => ?_) (fun j hj => by rw [zz_up_ne (by decide), zz_up_eq, zz_upn (by omega)]; exact hI.1.2.2.2.2.2.2 j hj)) (by rw [zz_up_ne (by decide), zz_up_ne (by decide)]) (by rw [zz_up_ne (by decide), zz_up_ne (by decide)]) ⟨by rw [zz_up_ne (by decide), zz_up_ne (by decide)]; exact hI.2.1.1, fun j hj => by rw [zz_up_ne (by decide), zz_up_ne (by decide)]; exact hI.2.1.2 j hj⟩, fun c hc => by rw [zz_up_ne (by omega), zz_up_ne (by omega)], rfl⟩
          show _ = nI (if j = aa X.1 then k else la X.1 j)
          rw [zz_up_ne (by decide), zz_up_eq, Nat.mul_zero, Nat.zero_add]
          by_cases e : j = aa X.1
          · rw [if_pos e, e, zz_ups]
          · rw [if_neg e, zz_upn e]; exact hI.1.2.2.2.2.2.1 j (by omega)
      · have hm : aa X.1 = 12 := by omega
        exact ⟨-4, X, ⟨wA, wB⟩, CL.q fun I J hI => c_X6_length_f0 (d := 9) I J (aa X.1) hI.1.1.2.2.2.2.2.1.1 l3 _ hy hm, ML.q fun I J hI => c_X7_length_f0 (d := 9) I J (aa X.1) hI.1.1.2.2.1 l3 _ hy hm⟩
    · rcases Nat.lt_or_ge (ab X.1) 12 with hm | hm
      · obtain ⟨k, rfl, hk1, hk2⟩ := zz_rgx (by decide) (by decide) hy
        refine ⟨nI (ab X.1 + 1), (zU X.1 (aa X.1) (ab X.1 + 1) (rt X.1) (mu X.1) (la X.1) (fun j => if j = ab X.1 then k else lb X.1 j), X.2.1, X.2.2), ⟨wA.set wA.1.2.2.1 (by omega) wA.2.2.2.1 wA.2.2.2.2.1 wA.2.2.2.2.2.1 (fun j hj => ?_), wB⟩, fun I J hI => (c_X6_length_k1 (d := 9) I J (ab X.1) hI.1.1.2.2.2.2.2.2.1 l4 _ hy hm).imp ?_, fun I J hI => (c_X7_length_k1 (d := 9) I J (ab X.1) hI.1.1.2.2.2 l4 _ hy hm).imp ?_⟩
        · show 1 ≤ (if j = ab X.1 then k else lb X.1 j) ∧ (if j = ab X.1 then k else lb X.1 j) ≤ 99
          by_cases e : j = ab X.1
          · rw [if_pos e]; exact ⟨hk1, hk2⟩
          · rw [if_neg e]; exact wA.2.2.2.2.2.2 j (by omega)
        · rintro _ _ ⟨rfl, rfl⟩
          refine ⟨rfl, zz_up (zz_up I (34 + 1) (ab X.1) (nI k)) 34 1 (nI (ab X.1 + 1)), J, hI.gen ⟨wA, wB⟩ (fun c h1 h2 => by rw [zz_up_ne (by omega), zz_up_ne (by omega)]) (hI.2.1.fr (by rw [zz_up_ne (by decide), zz_up_ne (by decide)]) (by rw [zz_up_ne (by decide), zz_up_ne (by decide)])) (hI.1.set wA (fun c h1 h2 h3 => by rw [zz_up_ne (by omega), zz_up_ne (by omega)]) (fun r hr => by rw [zz_up_ne (by decide), zz_up_ne (by decide)]; exact hI.1.1.2.2.2.1 r hr) (fun w hw => by rw [zz_up_ne (by decide), zz_up_ne (by decide)]; exact hI.1.1.2.2.2.2.1 w hw) (hI.1.1.2.2.2.2.2.1.fr (by rw [zz_up_ne (by decide), zz_up_ne (by decide)]) (by rw [zz_up_ne (by decide), zz_up_ne (by decide)])) ⟨by rw [zz_up_eq, zz_ups], fun j hj => ?_⟩), fun c hc => by rw [zz_up_ne (by omega), zz_up_ne (by omega)], rfl⟩
          show _ = nI (if j = ab X.1 then k else lb X.1 j)
          rw [zz_up_ne (by decide), zz_up_eq]
          by_cases e : j = ab X.1
          · rw [if_pos e, e, zz_ups]
          · rw [if_neg e, zz_upn e]; exact hI.1.1.2.2.2.2.2.2.2 j (by omega)
        · rintro _ _ ⟨rfl, rfl⟩
          refine ⟨rfl, zz_up (zz_up I 371 (12 * 1 + ab X.1) (nI k)) 370 1 (nI (ab X.1 + 1)), J, hI.gen (hI.1.set (by rw [zz_up_ne (by decide), zz_up_ne (by decide)]) (by rw [zz_up_ne (by decide), zz_up_ne (by decide)]) (fun c h1 h2 => by rw [zz_up_ne (by omega), zz_up_ne (by omega)]) (fun r hr => by rw [zz_up_ne (by decide), zz_up_ne (by decide)]; exact hI.1.2.2.2.1 r hr) (fun w hw => by rw [zz_up_ne (by decide), zz_up_ne (by decide)]; exact hI.1.2.2.2.2.1 w hw) (by rw [zz_up_eq, zz_upn (by decide), zz_up_ne (by decide)]; exact hI.1.1.2.2.1) (by rw [zz_up_eq, zz_ups]) (fun j hj => by rw [zz_up_ne (by decide), zz_up_eq, zz_upn (by omega)]; exact hI.1.2.2.2.2.2.1 j hj) (fun j hj => ?_)) (by rw [zz_up_ne (by decide), zz_up_ne (by decide)]) (by rw [zz_up_ne (by decide), zz_up_ne (by decide)]) ⟨by rw [zz_up_ne (by decide), zz_up_ne (by decide)]; exact hI.2.1.1, fun j hj => by rw [zz_up_ne (by decide), zz_up_ne (by decide)]; exact hI.2.1.2 j hj⟩, fun c hc => by rw [zz_up_ne (by omega), zz_up_ne (by omega)], rfl⟩
          show _ = nI (if j = ab X.1 then k else lb X.1 j)
          rw [zz_up_ne (by decide), zz_up_eq, Nat.mul_one]
          by_cases e : j = ab X.1
          · rw [if_pos e, e, zz_ups]
          · rw [if_neg e, zz_upn (by omega)]; exact hI.1.2.2.2.2.2.2 j (by omega)
      · have hm : ab X.1 = 12 := by omega
        exact ⟨-4, X, ⟨wA, wB⟩, CL.q fun I J hI => c_X6_length_f1 (d := 9) I J (ab X.1) hI.1.1.2.2.2.2.2.2.1 l4 _ hy hm, ML.q fun I J hI => c_X7_length_f1 (d := 9) I J (ab X.1) hI.1.1.2.2.2 l4 _ hy hm⟩
  · exact ⟨-2, X, ⟨wA, wB⟩, CL.q fun I J hI => c_X6_length_o (d := 9) I J x y h, ML.q fun I J hI => c_X7_length_o (d := 9) I J x y h⟩
theorem s_lengths (hX : IW X) : STi sc mX6_lengths mX7_lengths [] X := by
  obtain ⟨wA, wB⟩ := hX
  refine ⟨nI (aa X.1 + ab X.1), (zU X.1 0 0 (rt X.1) (mu X.1) (la X.1) (lb X.1), X.2.1, X.2.2), ⟨wA.set (by decide) (by decide) wA.2.2.2.1 wA.2.2.2.2.1 (fun j hj => absurd hj (Nat.not_lt_zero j)) (fun j hj => absurd hj (Nat.not_lt_zero j)), wB⟩, fun I J hI => (c_X6_lengths (d := 10) I J (aa X.1) (ab X.1) hI.1.1.2.2.2.2.2.1.1 hI.1.1.2.2.2.2.2.2.1).imp ?_, fun I J hI => (c_X7_lengths (d := 10) I J (aa X.1) (ab X.1) hI.1.1.2.2.1 hI.1.1.2.2.2).imp ?_⟩
  · rintro _ _ ⟨rfl, rfl⟩
    exact ⟨rfl, zz_up (zz_up I 32 1 (nI 0)) 34 1 (nI 0), J, hI.gen ⟨wA, wB⟩ (fun c h1 h2 => by rw [zz_up_ne (by omega), zz_up_ne (by omega)]) (hI.2.1.fr (by rw [zz_up_ne (by decide), zz_up_ne (by decide)]) (by rw [zz_up_ne (by decide), zz_up_ne (by decide)])) (hI.1.set wA (fun c h1 h2 h3 => by rw [zz_up_ne (by omega), zz_up_ne (by omega)]) (fun r hr => by rw [zz_up_ne (by decide), zz_up_ne (by decide)]; exact hI.1.1.2.2.2.1 r hr) (fun w hw => by rw [zz_up_ne (by decide), zz_up_ne (by decide)]; exact hI.1.1.2.2.2.2.1 w hw) ⟨by rw [zz_up_ne (by decide), zz_up_eq, zz_ups], fun j hj => absurd hj (Nat.not_lt_zero j)⟩ ⟨by rw [zz_up_eq, zz_ups], fun j hj => absurd hj (Nat.not_lt_zero j)⟩), fun c hc => by rw [zz_up_ne (by omega), zz_up_ne (by omega)], rfl⟩
  · rintro _ _ ⟨rfl, rfl⟩
    exact ⟨rfl, zz_up (zz_up I 370 0 (nI 0)) 370 1 (nI 0), J, hI.gen (hI.1.set (by rw [zz_up_ne (by decide), zz_up_ne (by decide)]) (by rw [zz_up_ne (by decide), zz_up_ne (by decide)]) (fun c h1 h2 => by rw [zz_up_ne (by omega), zz_up_ne (by omega)]) (fun r hr => by rw [zz_up_ne (by decide), zz_up_ne (by decide)]; exact hI.1.2.2.2.1 r hr) (fun w hw => by rw [zz_up_ne (by decide), zz_up_ne (by decide)]; exact hI.1.2.2.2.2.1 w hw) (by rw [zz_up_eq, zz_upn (by decide), zz_up_eq, zz_ups]) (by rw [zz_up_eq, zz_ups]) (fun j hj => absurd hj (Nat.not_lt_zero j)) (fun j hj => absurd hj (Nat.not_lt_zero j))) (by rw [zz_up_ne (by decide), zz_up_ne (by decide)]) (by rw [zz_up_ne (by decide), zz_up_ne (by decide)]) ⟨by rw [zz_up_ne (by decide), zz_up_ne (by decide)]; exact hI.2.1.1, fun j hj => by rw [zz_up_ne (by decide), zz_up_ne (by decide)]; exact hI.2.1.2 j hj⟩, fun c hc => by rw [zz_up_ne (by omega), zz_up_ne (by omega)], rfl⟩
theorem CL.j {M : zz_MD} {as : List Value} {r : Value} (hX : IW X) (h : ∀ (I : Nat → Nat → Int32) (J : Nat → Nat → Int64), IC I X → EvM sc 10 0 0 M as (zz_SH, I, J) (fun q σ => q = some r ∧ ∃ (I' : Nat → Nat → Int32) (J' : Nat → Nat → Int64), zCq I I' ∧ σ = (zz_SH, I', J'))) : CL sc M as X r X := fun I J hI => (h I J hI).imp (by rintro _ _ ⟨rfl, I', J', hq, rfl⟩; exact ⟨rfl, I', J', hI.fr hX (fun c hc => hq c (by omega)), fun c hc => hq c (by omega), rfl⟩)
theorem ML.j {M : zz_MD} {as : List Value} {r : Value} (h : ∀ (I : Nat → Nat → Int32) (J : Nat → Nat → Int64), IOm I X → EvM sc 10 0 0 M as (zz_SH, I, J) (fun q σ => q = some r ∧ ∃ (I' : Nat → Nat → Int32) (J' : Nat → Nat → Int64), zSc I I' ∧ zJ8 J J' ∧ σ = (zz_SH, I', J'))) : ML sc M as X r X := fun I J hI => (h I J hI).imp (by rintro _ _ ⟨rfl, I', J', hq, -, rfl⟩; exact ⟨rfl, I', J', hI.sc hq, hq.1, rfl⟩)
theorem s_laid (hX : IW X) (x : Int32) : STl sc mX6_laid mX7_laid [.int x] X := by
  by_cases h1 : x = -1
  · subst h1
    exact ⟨_, X, hX, CL.j hX fun I J hI => c_X6_laid_c (d := 4) I J X.1 hI.1 hX.1, ML.j fun I J hI => c_X7_laid_c (d := 7) I J X.1 hI.1 hX.1⟩
  · by_cases h2 : x = -2
    · subst h2
      exact ⟨_, X, hX, CL.j hX fun I J hI => c_X6_laid_w (d := 4) I J X.1 hI.1 hX.1, ML.j fun I J hI => c_X7_laid_w (d := 7) I J X.1 hI.1 hX.1⟩
    · by_cases h3 : x = -3
      · subst h3
        exact ⟨_, X, hX, CL.j hX fun I J hI => c_X6_laid_3 (d := 4) I J X.1 hI.1 hX.1, ML.j fun I J hI => c_X7_laid_x (d := 7) I J X.1 hI.1 hX.1 (-3) h1 h2⟩
      · exact ⟨_, X, hX, CL.j hX fun I J hI => c_X6_laid_d (d := 4) I J X.1 hI.1 hX.1 x h1 h2 h3, ML.j fun I J hI => c_X7_laid_x (d := 7) I J X.1 hI.1 hX.1 x h1 h2⟩
theorem s_told (hX : IW X) (x : Int32) : STi sc mX6_told mX7_told [.int x] X := by
  by_cases h0 : nI 0 ≤ x ∧ x ≤ nI 4
  · obtain ⟨j, rfl, -, hj⟩ := zz_rgx (by decide) (by decide) h0
    rcases (show j = 0 ∨ j = 1 ∨ j = 2 ∨ j = 3 ∨ j = 4 by omega) with rfl | rfl | rfl | rfl | rfl
    · exact ⟨_, X, hX, CL.q fun I J hI => c_X6_told_0 (d := 9) I J X.1 hI.1 hX.1 _ hI.2.1.1 hX.2.1.1, ML.q fun I J hI => c_X7_told_0 (d := 9) I J X.1 hI.1 hX.1 _ hI.2.1.1 hX.2.1.1⟩
    · exact ⟨_, X, hX, CL.q fun I J hI => c_X6_told_1 (d := 9) I J X.1 hI.1 hX.1 _ hI.2.1.1 hX.2.1.1, ML.q fun I J hI => c_X7_told_1 (d := 9) I J X.1 hI.1 hX.1 _ hI.2.1.1 hX.2.1.1⟩
    · exact ⟨_, X, hX, CL.q fun I J hI => c_X6_told_2 (d := 9) I J X.1 hI.1 hX.1 _ hI.2.1.1 hX.2.1.1, ML.q fun I J hI => c_X7_told_2 (d := 9) I J X.1 hI.1 hX.1 _ hI.2.1.1 hX.2.1.1⟩
    · exact ⟨_, X, hX, CL.q fun I J hI => c_X6_told_3 (d := 9) I J X.1 hI.1 hX.1 _ hI.2.1.1 hX.2.1.1, ML.q fun I J hI => c_X7_told_3 (d := 9) I J X.1 hI.1 hX.1 _ hI.2.1.1 hX.2.1.1⟩
    · exact ⟨_, X, hX, CL.q fun I J hI => c_X6_told_4 (d := 9) I J X.1 hI.1 hX.1 _ hI.2.1.1 hX.2.1.1, ML.q fun I J hI => c_X7_told_4 (d := 9) I J X.1 hI.1 hX.1 _ hI.2.1.1 hX.2.1.1⟩
  · by_cases h1 : nI 10 ≤ x ∧ x ≤ nI 14
    · obtain ⟨k, rfl, hk1, hk2⟩ := zz_rgx (by decide) (by decide) h1
      obtain ⟨b, rfl⟩ : ∃ b, k = 10 + b := ⟨k - 10, by omega⟩
      exact ⟨_, X, hX, CL.q fun I J hI => c_X6_told_r (d := 9) I J X.1 hI.1 hX.1 b (by omega), ML.q fun I J hI => c_X7_told_r (d := 9) I J X.1 hI.1 hX.1 b (by omega)⟩
    · by_cases h2 : nI 20 ≤ x ∧ x ≤ nI 35
      · obtain ⟨k, rfl, hk1, hk2⟩ := zz_rgx (by decide) (by decide) h2
        obtain ⟨w, rfl⟩ : ∃ w, k = 20 + w := ⟨k - 20, by omega⟩
        exact ⟨_, X, hX, CL.q fun I J hI => c_X6_told_m (d := 9) I J X.1 hI.1 hX.1 w (by omega), ML.q fun I J hI => c_X7_told_m (d := 9) I J X.1 hI.1 hX.1 w (by omega)⟩
      · have h3 : x.toInt < 0 ∨ 4 < x.toInt := by
          apply Classical.byContradiction
          intro q
          refine h0 ⟨?_, ?_⟩
          · rw [Int32.le_iff_toInt_le, nI_toInt (by decide)]; omega
          · rw [Int32.le_iff_toInt_le, nI_toInt (by decide)]; omega
        exact ⟨-2, X, hX, CL.q fun I J hI => c_X6_told_o (d := 9) I J x h1 h2 h3, ML.q fun I J hI => c_X7_told_o (d := 9) I J x h1 h2 (fun e => h0 (by rw [e]; decide)) (fun e => h0 (by rw [e]; decide)) (fun e => h0 (by rw [e]; decide)) (fun q => h0 ⟨Int32.le_trans (by decide) q.1, q.2⟩)⟩
end ZS2
