/-! ===== every call answers alike: first half ===== -/
section ZS1
variable {sc : Nat × (Nat → Int32)} {X : zX}
theorem s_say (hX : IW X) (x : Int32) : STi sc mX6_say mX7_say [.int x] X := by
  by_cases hx : nI 33 ≤ x ∧ x ≤ nI 126
  · rcases Nat.lt_or_ge X.2.1.1 30 with hf | hf
    · obtain ⟨k, rfl, hk1, hk2⟩ := zz_rgx (by decide) (by decide) hx
      refine ⟨nI (X.2.1.1 + 1), (X.1, (X.2.1.1 + 1, fun j => if j = X.2.1.1 then k else X.2.1.2 j), X.2.2), ⟨hX.1, ⟨by show X.2.1.1 + 1 ≤ 30; omega, fun j hj => ?_⟩, hX.2.2⟩, fun I J hI => (c_X6_say_k (d := 9) I J _ hI.2.1.1 hX.2.1.1 _ hx hf).imp ?_, fun I J hI => (c_X7_say_k (d := 9) I J _ hI.2.1.1 hX.2.1.1 _ hx hf).imp ?_⟩
      · show 33 ≤ (if j = X.2.1.1 then k else X.2.1.2 j) ∧ (if j = X.2.1.1 then k else X.2.1.2 j) ≤ 126
        have hj : j < X.2.1.1 + 1 := hj
        by_cases e : j = X.2.1.1
        · rw [if_pos e]; exact ⟨hk1, hk2⟩
        · rw [if_neg e]; exact hX.2.1.2 j (by omega)
      · rintro _ _ ⟨rfl, rfl⟩
        refine ⟨rfl, _, J, hI.gen hX (fun c h1 h2 => by rw [zz_up_ne (by omega), zz_up_ne (by omega)]) ⟨by rw [zz_up_eq, zz_ups], fun j hj => ?_⟩ (hI.1.fr hX.1 (fun c h1 h2 => by rw [zz_up_ne (by omega), zz_up_ne (by omega)])), fun c hc => by rw [zz_up_ne (by omega), zz_up_ne (by omega)], rfl⟩
        rw [zz_up_ne (by decide), zz_up_eq]
        show _ = nI (if j = X.2.1.1 then k else X.2.1.2 j)
        by_cases e : j = X.2.1.1
        · rw [e, zz_ups, if_pos rfl]
        · rw [zz_upn e, if_neg e]; exact hI.2.1.2 j (by omega)
      · rintro _ _ ⟨rfl, rfl⟩
        refine ⟨rfl, _, J, hI.gen ?_ (by rw [zz_up_ne (by decide), zz_up_ne (by decide)]) (by rw [zz_up_ne (by decide), zz_up_ne (by decide)]) ⟨by rw [zz_up_eq, zz_ups], fun j hj => ?_⟩, fun c hc => by rw [zz_up_ne (by omega), zz_up_ne (by omega)], rfl⟩
        · rw [zVm_fr (by rw [zz_up_eq, zz_upn (by decide), zz_up_ne (by decide)]) (by rw [zz_up_eq, zz_upn (by decide), zz_up_ne (by decide)]) (fun c h1 h2 => by rw [zz_up_ne (by omega), zz_up_ne (by omega)])]
          exact hI.1
        · rw [zz_up_ne (by decide), zz_up_eq]
          by_cases e : j = X.2.1.1
          · rw [e, zz_ups, if_pos rfl]
          · rw [zz_upn e, if_neg e]; exact hI.2.1.2 j (by omega)
    · have hf : X.2.1.1 = 30 := Nat.le_antisymm hX.2.1.1 hf
      exact ⟨-4, X, hX, CL.q fun I J hI => c_X6_say_f (d := 9) I J _ hI.2.1.1 hX.2.1.1 _ hx hf, ML.q fun I J hI => c_X7_say_f (d := 9) I J _ hI.2.1.1 hX.2.1.1 _ hx hf⟩
  · exact ⟨-2, X, hX, CL.q fun I J hI => c_X6_say_o (d := 9) I J x hx, ML.q fun I J hI => c_X7_say_o (d := 9) I J x hx⟩
theorem s_wipe (hX : IW X) : STi sc mX6_wipe mX7_wipe [] X := by
  refine ⟨nI X.2.1.1, (X.1, (0, X.2.1.2), X.2.2), ⟨hX.1, ⟨Nat.zero_le _, fun j hj => absurd hj (Nat.not_lt_zero j)⟩, hX.2.2⟩, fun I J hI => (c_X6_wipe (d := 10) I J _ hI.2.1.1 hX.2.1.1).imp ?_, fun I J hI => (c_X7_wipe (d := 10) I J _ hI.2.1.1 hX.2.1.1).imp ?_⟩
  · rintro _ _ ⟨rfl, rfl⟩
    exact ⟨rfl, zz_up I 1 1 (nI 0), J, hI.gen hX (fun c h1 h2 => zz_up_ne (by omega)) ⟨by rw [zz_up_eq, zz_ups], fun j hj => absurd hj (Nat.not_lt_zero j)⟩ (hI.1.fr hX.1 (fun c h1 h2 => zz_up_ne (by omega))), fun c hc => zz_up_ne (by omega), rfl⟩
  · rintro _ _ ⟨rfl, rfl⟩
    refine ⟨rfl, zz_up I 359 0 (nI 0), J, hI.gen ?_ (zz_up_ne (by decide)) (zz_up_ne (by decide)) ⟨by rw [zz_up_eq, zz_ups], fun j hj => absurd hj (Nat.not_lt_zero j)⟩, fun c hc => zz_up_ne (by omega), rfl⟩
    rw [zVm_fr (by rw [zz_up_eq, zz_upn (by decide)]) (by rw [zz_up_eq, zz_upn (by decide)]) (fun c h1 h2 => zz_up_ne (by omega))]
    exact hI.1
theorem zz_ix2 {x : Int32} (h : zz_ix x 2) : x = nI 0 ∨ x = nI 1 := by
  obtain ⟨j, hj, rfl⟩ := h
  rcases (show j = 0 ∨ j = 1 by omega) with rfl | rfl
  · exact Or.inl rfl
  · exact Or.inr rfl
theorem s_fault (hX : IW X) (x : Int32) : STi sc mX6_fault mX7_fault [.int x] X := by
  by_cases hx : zz_ix x 2
  · rcases zz_ix2 hx with rfl | rfl
    · exact ⟨_, X, hX, CL.q fun I J hI => c_X6_fault_0 (d := 6) I J _ _ hI.2.1 hX.2.1.1 hX.2.1.2, ML.s fun I J hI => c_X7_fault_0 (d := 7) I J _ _ hI.2.1.1 hI.2.1.2 hX.2.1.1 hX.2.1.2⟩
    · exact ⟨_, X, hX, CL.q fun I J hI => c_X6_fault_1 (d := 6) I J _ _ hI.2.1 hX.2.1.1 hX.2.1.2, ML.s fun I J hI => c_X7_fault_1 (d := 7) I J _ _ hI.2.1.1 hI.2.1.2 hX.2.1.1 hX.2.1.2⟩
  · exact ⟨-2, X, hX, CL.q fun I J hI => c_X6_fault_o (d := 6) I J x hx, ML.q fun I J hI => c_X7_fault_o (d := 7) I J x hx⟩
theorem s_keep (hX : IW X) (x : Int32) : STi sc mX6_keep mX7_keep [.int x] X := by
  have w1 := hX.1.1.1
  by_cases hx : x = -1
  · subst hx
    rcases Nat.lt_or_ge (aN X.1) 12 with hm | hm
    · cases hf : fP X.2.1.1 X.2.1.2 with
      | none =>
        refine ⟨nI (aN X.1), (addP X.1 X.2.1.1 X.2.1.2 (E1 X.2.1.1 X.2.1.2) none, (0, X.2.1.2), X.2.2), ⟨WF_addP hX.1 hm (fP_none hf) hX.2.1.2 (fun q hq => by cases hq), ⟨Nat.zero_le _, fun j hj => absurd hj (Nat.not_lt_zero j)⟩, hX.2.2⟩, fun I J hI => (c_X6_keep_kn (d := 4) I J X.1 hI.1 hX.1 _ _ hI.2.1 hX.2.1.1 hX.2.1.2 hm hf).imp ?_, fun I J hI => (c_X7_keep_kn (d := 7) I J X.1 hI.1 hX.1 _ _ hI.2.1.1 hI.2.1.2 hX.2.1.1 hX.2.1.2 hm hf _ rfl).imp ?_⟩
        · rintro _ _ ⟨rfl, I', hC, hk, rfl⟩
          exact ⟨rfl, I', J, hI.gen hX (fun c h1 h2 => hk.1 c (by omega) (by omega)) ⟨hk.2, fun j hj => absurd hj (Nat.not_lt_zero j)⟩ hC, fun c hc => hk.1 c (by omega) (by omega), rfl⟩
        · rintro _ _ ⟨rfl, I', hk, hV, rfl⟩
          exact ⟨rfl, I', J, hI.gen hV hk.2.1 hk.2.2.1 ⟨hk.2.2.2, fun j hj => absurd hj (Nat.not_lt_zero j)⟩, hk.1, rfl⟩
      | some v =>
        have hv := fP_lt hf hX.2.1.1
        exact ⟨-5, X, hX, CL.q fun I J hI => c_X6_keep_nn (d := 4) I J X.1 hI.1 hX.1 _ _ hI.2.1 hX.2.1.1 hX.2.1.2 hm v hf hv, ML.s fun I J hI => c_X7_keep_nn (d := 7) I J X.1 hI.1 hX.1 _ _ hI.2.1.1 hI.2.1.2 hX.2.1.1 hX.2.1.2 hm v hf (by omega)⟩
    · have hm : aN X.1 = 12 := by omega
      exact ⟨-4, X, hX, CL.q fun I J hI => c_X6_keep_fn (d := 4) I J X.1 hI.1 hX.1 hm, ML.q fun I J hI => c_X7_keep_fn (d := 7) I J X.1 hI.1 hX.1 hm⟩
  · by_cases hb : zz_ix x (aN X.1)
    · obtain ⟨b, hb, rfl⟩ := hb
      rcases Nat.lt_or_ge (aN X.1) 12 with hm | hm
      · cases hf : fP X.2.1.1 X.2.1.2 with
        | none =>
          refine ⟨nI (aN X.1), (addP X.1 X.2.1.1 X.2.1.2 (E1 X.2.1.1 X.2.1.2) (some b), (0, X.2.1.2), X.2.2), ⟨WF_addP hX.1 hm (fP_none hf) hX.2.1.2 (fun q hq => by cases hq; exact hb), ⟨Nat.zero_le _, fun j hj => absurd hj (Nat.not_lt_zero j)⟩, hX.2.2⟩, fun I J hI => (c_X6_keep_ks (d := 4) I J X.1 hI.1 hX.1 _ _ hI.2.1 hX.2.1.1 hX.2.1.2 b hb hm hf).imp ?_, fun I J hI => (c_X7_keep_ks (d := 7) I J X.1 hI.1 hX.1 _ _ hI.2.1.1 hI.2.1.2 hX.2.1.1 hX.2.1.2 b hb hm hf _ rfl).imp ?_⟩
          · rintro _ _ ⟨rfl, I', hC, hk, rfl⟩
            exact ⟨rfl, I', J, hI.gen hX (fun c h1 h2 => hk.1 c (by omega) (by omega)) ⟨hk.2, fun j hj => absurd hj (Nat.not_lt_zero j)⟩ hC, fun c hc => hk.1 c (by omega) (by omega), rfl⟩
          · rintro _ _ ⟨rfl, I', hk, hV, rfl⟩
            exact ⟨rfl, I', J, hI.gen hV hk.2.1 hk.2.2.1 ⟨hk.2.2.2, fun j hj => absurd hj (Nat.not_lt_zero j)⟩, hk.1, rfl⟩
        | some v =>
          have hv := fP_lt hf hX.2.1.1
          exact ⟨-5, X, hX, CL.q fun I J hI => c_X6_keep_ns (d := 4) I J X.1 hI.1 hX.1 _ _ hI.2.1 hX.2.1.1 hX.2.1.2 b hb hm v hf hv, ML.s fun I J hI => c_X7_keep_ns (d := 7) I J X.1 hI.1 hX.1 _ _ hI.2.1.1 hI.2.1.2 hX.2.1.1 hX.2.1.2 b hb hm v hf (by omega)⟩
      · have hm : aN X.1 = 12 := by omega
        exact ⟨-4, X, hX, CL.q fun I J hI => c_X6_keep_fs (d := 4) I J X.1 hI.1 hX.1 b hb hm, ML.q fun I J hI => c_X7_keep_fs (d := 7) I J X.1 hI.1 hX.1 b hb hm⟩
    · exact ⟨-1, X, hX, CL.q fun I J hI => c_X6_keep_u (d := 4) I J X.1 hI.1 hX.1 x hx hb, ML.q fun I J hI => c_X7_keep_u (d := 7) I J X.1 hI.1 hX.1 x hx hb⟩
theorem s_write (hX : IW X) : STi sc mX6_write mX7_write [] X := by
  have w2 := hX.1.1.2.1
  rcases Nat.lt_or_ge (aM X.1) 10 with hm | hm
  · cases hf : fS X.2.1.1 X.2.1.2 with
    | none =>
      have h9 := fS_none hf
      refine ⟨nI (aM X.1), (addT X.1 X.2.1.1 X.2.1.2, (0, X.2.1.2), X.2.2), ⟨WF_addT hX.1 hm h9.1 h9.2 hX.2.1.2, ⟨Nat.zero_le _, fun j hj => absurd hj (Nat.not_lt_zero j)⟩, hX.2.2⟩, fun I J hI => (c_X6_write_k (d := 4) I J X.1 hI.1 hX.1 _ _ hI.2.1 hX.2.1.1 hX.2.1.2 hm hf).imp ?_, fun I J hI => (c_X7_write_k (d := 7) I J X.1 hI.1 hX.1 _ _ hI.2.1.1 hI.2.1.2 hX.2.1.1 hX.2.1.2 hm hf).imp ?_⟩
      · rintro _ _ ⟨rfl, I', hC, hk, rfl⟩
        exact ⟨rfl, I', J, hI.gen hX (fun c h1 h2 => hk.1 c (by omega) (by omega)) ⟨hk.2, fun j hj => absurd hj (Nat.not_lt_zero j)⟩ hC, fun c hc => hk.1 c (by omega) (by omega), rfl⟩
      · rintro _ _ ⟨rfl, I', hk, hV, rfl⟩
        exact ⟨rfl, I', J, hI.gen hV hk.2.1 hk.2.2.1 ⟨hk.2.2.2, fun j hj => absurd hj (Nat.not_lt_zero j)⟩, hk.1, rfl⟩
    | some v =>
      have hv := fS_lt hf hX.2.1.1
      exact ⟨-5, X, hX, CL.q fun I J hI => c_X6_write_n (d := 4) I J X.1 hI.1 hX.1 _ _ hI.2.1 hX.2.1.1 hX.2.1.2 hm v hf hv, ML.s fun I J hI => c_X7_write_n (d := 7) I J X.1 hI.1 hX.1 _ _ hI.2.1.1 hI.2.1.2 hX.2.1.1 hX.2.1.2 hm v hf (by omega)⟩
  · have hm : aM X.1 = 10 := by omega
    exact ⟨-4, X, hX, CL.q fun I J hI => c_X6_write_f (d := 4) I J X.1 hI.1 hX.1 hm, ML.q fun I J hI => c_X7_write_f (d := 7) I J X.1 hI.1 hX.1 hm⟩
theorem s_pair (hX : IW X) (x y : Int32) : STi sc mX6_pair mX7_pair [.int x, .int y] X := by
  by_cases hx : zz_ix x (aN X.1)
  · obtain ⟨p, hp, rfl⟩ := hx
    have wf := (hX.1.2.1 p hp).1
    by_cases h1 : nI 0 ≤ y ∧ y ≤ nI 2
    · obtain ⟨j, rfl, -, hj⟩ := zz_rgx (by decide) (by decide) h1
      rcases (show j = 0 ∨ j = 1 ∨ j = 2 by omega) with rfl | rfl | rfl
      · exact ⟨_, X, hX, CL.q fun I J hI => c_X6_pair_0 (d := 9) I J X.1 hI.1 hX.1 p hp, ML.q fun I J hI => c_X7_pair_0 (d := 8) I J X.1 hI.1 hX.1 p hp⟩
      · exact ⟨_, X, hX, CL.q fun I J hI => c_X6_pair_1 (d := 9) I J X.1 hI.1 hX.1 p hp, ML.q fun I J hI => c_X7_pair_1 (d := 8) I J X.1 hI.1 hX.1 p hp⟩
      · exact ⟨_, X, hX, CL.q fun I J hI => c_X6_pair_2 (d := 9) I J X.1 hI.1 hX.1 p hp, ML.q fun I J hI => c_X7_pair_2 (d := 8) I J X.1 hI.1 hX.1 p hp⟩
    · by_cases h3 : nI 100 ≤ y ∧ y ≤ nI (99 + fz X.1 p)
      · obtain ⟨k, rfl, hk1, hk2⟩ := zz_rgx (by decide) (by omega) h3
        obtain ⟨j, rfl⟩ : ∃ j, k = 100 + j := ⟨k - 100, by omega⟩
        exact ⟨_, X, hX, CL.q fun I J hI => c_X6_pair_f (d := 9) I J X.1 hI.1 hX.1 p hp j (by omega), ML.q fun I J hI => c_X7_pair_f (d := 8) I J X.1 hI.1 hX.1 p hp j (by omega)⟩
      · by_cases h4 : nI 200 ≤ y ∧ y ≤ nI (199 + gz X.1 p)
        · obtain ⟨k, rfl, hk1, hk2⟩ := zz_rgx (by decide) (by omega) h4
          obtain ⟨j, rfl⟩ : ∃ j, k = 200 + j := ⟨k - 200, by omega⟩
          exact ⟨_, X, hX, CL.q fun I J hI => c_X6_pair_g (d := 9) I J X.1 hI.1 hX.1 p hp j (by omega), ML.q fun I J hI => c_X7_pair_g (d := 8) I J X.1 hI.1 hX.1 p hp j (by omega)⟩
        · exact ⟨-2, X, hX, CL.q fun I J hI => c_X6_pair_o (d := 9) I J X.1 hI.1 hX.1 p hp y h1 h3 h4, ML.q fun I J hI => c_X7_pair_o (d := 8) I J X.1 hI.1 hX.1 p hp y h1 h3 h4⟩
  · exact ⟨-1, X, hX, CL.q fun I J hI => c_X6_pair_u (d := 9) I J X.1 hI.1 hX.1 x y hx, ML.q fun I J hI => c_X7_pair_u (d := 8) I J X.1 hI.1 hX.1 x y hx⟩
theorem s_far (hX : IW X) (x y : Int32) : STi sc mX6_far mX7_far [.int x, .int y] X := by
  by_cases h : zz_ix x (aM X.1) ∧ zz_ix y (aM X.1)
  · obtain ⟨⟨k, hk, rfl⟩, o, ho, rfl⟩ := h
    exact ⟨_, X, hX, CL.s hX fun I J hI => c_X6_far_in (d := 7) I J X.1 hI.1 hX.1 k o hk ho, ML.s1 fun I J hI => c_X7_far_in (d := 6) I J X.1 hI.1 hX.1 k o hk ho⟩
  · exact ⟨-1, X, hX, CL.q fun I J hI => c_X6_far_out (d := 7) I J X.1 hI.1 hX.1 x y h, ML.q fun I J hI => c_X7_far_out (d := 6) I J X.1 hI.1 hX.1 x y h⟩
theorem s_match (hX : IW X) (x y : Int32) : STi sc mX6_match mX7_match [.int x, .int y] X := by
  by_cases h : zz_ix x (aM X.1) ∧ zz_ix y (aN X.1)
  · obtain ⟨⟨k, hk, rfl⟩, p, hp, rfl⟩ := h
    exact ⟨_, X, hX, CL.q fun I J hI => c_X6_match_in (d := 9) I J X.1 hI.1 hX.1 k p hk hp, ML.s1 fun I J hI => c_X7_match_in (d := 4) I J X.1 hI.1 hX.1 k p hk hp⟩
  · exact ⟨-1, X, hX, CL.q fun I J hI => c_X6_match_out (d := 9) I J X.1 hI.1 hX.1 x y h, ML.q fun I J hI => c_X7_match_out (d := 4) I J X.1 hI.1 hX.1 x y h⟩
theorem s_found (hX : IW X) (x y : Int32) : STi sc mX6_found mX7_found [.int x, .int y] X := by
  by_cases hx : zz_ix x (aM X.1)
  · obtain ⟨k, hk, rfl⟩ := hx
    by_cases hy : zz_ix y 2
    · rcases zz_ix2 hy with rfl | rfl
      · exact ⟨_, X, hX, CL.q fun I J hI => c_X6_found_0 (d := 9) I J X.1 hI.1 hX.1 k hk, ML.s fun I J hI => c_X7_found_0 (d := 3) I J X.1 hI.1 hX.1 k hk⟩
      · exact ⟨_, X, hX, CL.q fun I J hI => c_X6_found_1 (d := 9) I J X.1 hI.1 hX.1 k hk, ML.s fun I J hI => c_X7_found_1 (d := 3) I J X.1 hI.1 hX.1 k hk⟩
    · exact ⟨-2, X, hX, CL.q fun I J hI => c_X6_found_o (d := 9) I J X.1 hI.1 hX.1 k hk y hy, ML.q fun I J hI => c_X7_found_o (d := 3) I J X.1 hI.1 hX.1 k hk y hy⟩
  · exact ⟨-1, X, hX, CL.q fun I J hI => c_X6_found_u (d := 9) I J X.1 hI.1 hX.1 x y hx, ML.q fun I J hI => c_X7_found_u (d := 3) I J X.1 hI.1 hX.1 x y hx⟩
theorem s_filled (hX : IW X) (x y : Int32) : STi sc mX6_filled mX7_filled [.int x, .int y] X := by
  by_cases hx : zz_ix x (aM X.1)
  · obtain ⟨k, hk, rfl⟩ := hx
    cases hfd : fnd X.1 k (aN X.1) with
    | none => exact ⟨-5, X, hX, CL.q fun I J hI => c_X6_filled_n (d := 7) I J X.1 hI.1 hX.1 k hk y hfd, ML.s fun I J hI => c_X7_filled_n (d := 3) I J X.1 hI.1 hX.1 k hk y hfd⟩
    | some pv =>
      obtain ⟨p, v⟩ := pv
      by_cases hdf : dfl X.1 k p
      · by_cases hy : zz_ix y (gz X.1 p)
        · obtain ⟨j, hj, rfl⟩ := hy
          exact ⟨_, X, hX, CL.q fun I J hI => c_X6_filled_in (d := 7) I J X.1 hI.1 hX.1 k hk p v hfd hdf j hj, ML.s fun I J hI => c_X7_filled_in (d := 3) I J X.1 hI.1 hX.1 k hk p v hfd hdf j hj⟩
        · by_cases hy1 : y = -1
          · subst hy1
            exact ⟨_, X, hX, CL.q fun I J hI => c_X6_filled_len (d := 7) I J X.1 hI.1 hX.1 k hk p v hfd hdf, ML.s fun I J hI => c_X7_filled_len (d := 3) I J X.1 hI.1 hX.1 k hk p v hfd hdf hy⟩
          · exact ⟨-6, X, hX, CL.q fun I J hI => c_X6_filled_out (d := 7) I J X.1 hI.1 hX.1 k hk p v hfd y hdf hy hy1, ML.s fun I J hI => c_X7_filled_out (d := 3) I J X.1 hI.1 hX.1 k hk p v hfd y hdf hy hy1⟩
      · exact ⟨-5, X, hX, CL.q fun I J hI => c_X6_filled_no (d := 7) I J X.1 hI.1 hX.1 k hk p v hfd y hdf, ML.s fun I J hI => c_X7_filled_no (d := 3) I J X.1 hI.1 hX.1 k hk p v hfd y hdf⟩
  · exact ⟨-1, X, hX, CL.q fun I J hI => c_X6_filled_u (d := 7) I J X.1 hI.1 hX.1 x y hx, ML.q fun I J hI => c_X7_filled_u (d := 3) I J X.1 hI.1 hX.1 x y hx⟩
theorem s_price (hX : IW X) (x : Int32) : STi sc mX6_price mX7_price [.int x] X := by
  by_cases h1 : x = -1
  · subst h1
    exact ⟨_, X, hX, CL.q fun I J hI => c_X6_price_all (d := 6) I J X.1 hI.1 hX.1, ML.s fun I J hI => c_X7_price_all (d := 2) I J X.1 hI.1 hX.1⟩
  · by_cases hx : zz_ix x (aM X.1)
    · obtain ⟨k, hk, rfl⟩ := hx
      exact ⟨_, X, hX, CL.q fun I J hI => c_X6_price_in (d := 6) I J X.1 hI.1 hX.1 k hk, ML.s fun I J hI => c_X7_price_in (d := 2) I J X.1 hI.1 hX.1 k hk⟩
    · exact ⟨-1, X, hX, CL.q fun I J hI => c_X6_price_out (d := 6) I J X.1 hI.1 hX.1 x h1 hx, ML.q fun I J hI => c_X7_price_out (d := 2) I J X.1 hI.1 hX.1 x h1 hx⟩
theorem s_order (hX : IW X) (x : Int32) : STi sc mX6_order mX7_order [.int x] X := by
  by_cases h1 : x = -1
  · subst h1
    exact ⟨_, X, hX, CL.s hX fun I J hI => c_X6_order_l (d := 6) I J X.1 hI.1 hX.1, ML.s fun I J hI => c_X7_order_l (d := 2) I J X.1 hI.1 hX.1⟩
  · by_cases hx : zz_ix x (aM X.1)
    · obtain ⟨k, hk, rfl⟩ := hx
      exact ⟨_, X, hX, CL.s hX fun I J hI => c_X6_order_i (d := 6) I J X.1 hI.1 hX.1 k hk, ML.s fun I J hI => c_X7_order_i (d := 2) I J X.1 hI.1 hX.1 k hk⟩
    · exact ⟨-6, X, hX, CL.s hX fun I J hI => c_X6_order_o (d := 6) I J X.1 hI.1 hX.1 x h1 hx, ML.s fun I J hI => c_X7_order_o (d := 2) I J X.1 hI.1 hX.1 x h1 hx⟩
theorem s_kept (hX : IW X) : STi sc mX6_kept mX7_kept [] X := ⟨_, X, hX, CL.s hX fun I J hI => c_X6_kept (d := 6) I J X.1 hI.1 hX.1, ML.s fun I J hI => c_X7_kept (d := 2) I J X.1 hI.1 hX.1⟩
theorem s_wrongs (hX : IW X) : STi sc mX6_wrongs mX7_wrongs [] X := ⟨_, X, hX, CL.q fun I J hI => c_X6_wrongs (d := 7) I J X.1 hI.1 hX.1, ML.q fun I J hI => c_X7_wrongs (d := 8) I J X.1 hI.1 hX.1⟩
theorem s_goes (hX : IW X) (x y z : Int32) : STl sc mX6_goes mX7_goes [.int x, .int y, .int z] X := by
  by_cases h : zz_ix x 16 ∧ zz_ix y 16
  · obtain ⟨⟨w, hw, rfl⟩, v, hv, rfl⟩ := h
    by_cases hz : zz_ix z 2
    · rcases zz_ix2 hz with rfl | rfl
      · exact ⟨_, X, hX, CL.q fun I J hI => c_X6_goes_0 (d := 6) I J X.1 hI.1 hX.1 w v hw hv, ML.s fun I J hI => c_X7_goes_0 (d := 8) I J X.1 hI.1 hX.1 w v hw hv⟩
      · exact ⟨_, X, hX, CL.q fun I J hI => c_X6_goes_1 (d := 6) I J X.1 hI.1 hX.1 w v hw hv, ML.s fun I J hI => c_X7_goes_1 (d := 8) I J X.1 hI.1 hX.1 w v hw hv⟩
    · exact ⟨_, X, hX, CL.q fun I J hI => c_X6_goes_o (d := 6) I J w v hw hv z hz, ML.q fun I J hI => c_X7_goes_o (d := 8) I J w v hw hv z hz⟩
  · exact ⟨_, X, hX, CL.q fun I J hI => c_X6_goes_u (d := 6) I J x y z h, ML.q fun I J hI => c_X7_goes_u (d := 8) I J x y z h⟩
theorem s_learnt (hX : IW X) (x : Int32) : STi sc mX6_learnt mX7_learnt [.int x] X := by
  by_cases hx : zz_ix x 16
  · obtain ⟨w, hw, rfl⟩ := hx
    exact ⟨_, X, hX, CL.q fun I J hI => c_X6_learnt_in (d := 5) I J X.1 hI.1 hX.1 w hw, ML.s fun I J hI => c_X7_learnt_in (d := 8) I J X.1 hI.1 hX.1 w hw⟩
  · exact ⟨-1, X, hX, CL.q fun I J hI => c_X6_learnt_u (d := 5) I J x hx, ML.q fun I J hI => c_X7_learnt_u (d := 8) I J x hx⟩
end ZS1
