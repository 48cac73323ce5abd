/-! ===== the model: pad, rates, musts, lengths, told, pair ===== -/
theorem zz_rng {a b x : Nat} (ha : a < 2 ^ 31) (hb : b < 2 ^ 31) (hx : x < 2 ^ 31) : (nI a ≤ nI x ∧ nI x ≤ nI b) ↔ (a ≤ x ∧ x ≤ b) := by
  rw [nI_leI ha hx, nI_leI hx hb]

set_option maxRecDepth 100000 in
set_option maxHeartbeats 4000000 in
theorem c_X7_say_o {sc : Nat × (Nat → Int32)} {d : Nat} (I : Nat → Nat → Int32) (J : Nat → Nat → Int64) (x : Int32) (hx : ¬ (nI 33 ≤ x ∧ x ≤ nI 126)) : EvM sc (d + 1) 0 0 mX7_say [.ref 359, .int x] (zz_SH, I, J) (zz_is (.int (-2)) (zz_SH, I, J)) := by
  refine EvM.of (by decide) rfl (Nat.le_of_ble_eq_true rfl) ?_
  show Ev _ _ _ _ _ 0 [some (.ref 359), some (.int x)] [] (zz_SH, I, J) _
  refine Ev.run [(.iload_n 1, 1), (.bipush 33, 2), (.bipush 126, 2)] (pc' := 5) (L' := [some (.ref 359), some (.int x)]) (S' := [.int (nI 126), .int (nI 33), .int x]) rfl (by decide +kernel) rfl ?_
  refine Ev.callS0 mX7_in [.int x, .int (nI 33), .int (nI 126)] [] _ rfl lk_RX7_79 (by decide +kernel) rfl (Nat.le_of_ble_eq_true rfl) (c_X7_in I J x (nI 33) (nI 126)) ?_
  rintro _ _ ⟨rfl, ⟨rfl, h5⟩ | ⟨rfl, h5⟩⟩
  · exact absurd h5 hx
  · show Ev _ _ _ _ _ 8 [some (.ref 359), some (.int x)] [.int (nI 0)] (zz_SH, I, J) _
    refine Ev.if_ne (off := 6) (tgt := 14) (by decide +kernel) (by decide) (fun h8 => absurd h8 (by decide)) (fun h8 => ?_)
    refine Ev.run [(.bipush (-2), 2)] (pc' := 13) (L' := [some (.ref 359), some (.int x)]) (S' := [.int ((-2))]) rfl (by decide +kernel) rfl ?_
    exact Ev.iret rfl (by decide +kernel) (⟨rfl, rfl⟩)

set_option maxRecDepth 100000 in
set_option maxHeartbeats 4000000 in
theorem c_X7_say_f {sc : Nat × (Nat → Int32)} {d : Nat} (I : Nat → Nat → Int32) (J : Nat → Nat → Int64) (np : Nat) (hn : I 359 0 = nI np) (hnp : np ≤ 30) (x : Int32) (hx : nI 33 ≤ x ∧ x ≤ nI 126) (hf : np = 30) : EvM sc (d + 1) 0 0 mX7_say [.ref 359, .int x] (zz_SH, I, J) (zz_is (.int (-4)) (zz_SH, I, J)) := by
  refine EvM.of (by decide) rfl (Nat.le_of_ble_eq_true rfl) ?_
  show Ev _ _ _ _ _ 0 [some (.ref 359), some (.int x)] [] (zz_SH, I, J) _
  refine Ev.run [(.iload_n 1, 1), (.bipush 33, 2), (.bipush 126, 2)] (pc' := 5) (L' := [some (.ref 359), some (.int x)]) (S' := [.int (nI 126), .int (nI 33), .int x]) rfl (by decide +kernel) rfl ?_
  refine Ev.callS0 mX7_in [.int x, .int (nI 33), .int (nI 126)] [] _ rfl lk_RX7_79 (by decide +kernel) rfl (Nat.le_of_ble_eq_true rfl) (c_X7_in I J x (nI 33) (nI 126)) ?_
  rintro _ _ ⟨rfl, ⟨rfl, h5⟩ | ⟨rfl, h5⟩⟩
  · show Ev _ _ _ _ _ 8 [some (.ref 359), some (.int x)] [.int (nI 1)] (zz_SH, I, J) _
    refine Ev.if_ne (off := 6) (tgt := 14) (by decide +kernel) (by decide) (fun h8 => ?_) (fun h8 => absurd h8 (by decide))
    refine Ev.run [(.aload_n 0, 1), (.getfield 86, 3)] (pc' := 18) (L' := [some (.ref 359), some (.int x)]) (S' := [.int (I 359 0)]) rfl (by decide +kernel) rfl ?_
    rw [hn]
    refine Ev.run [(.bipush 30, 2)] (pc' := 20) (L' := [some (.ref 359), some (.int x)]) (S' := [.int (nI 30), .int (nI np)]) rfl (by decide +kernel) rfl ?_
    refine Ev.icmp_ne (off := 6) (tgt := 26) (by decide +kernel) (by decide) (fun h20 => ?_) (fun h20 => ?_)
    · have h20 : ¬ np = 30 := zz_bE_f (by omega) (by omega) h20
      exfalso; omega
    · have h20 : np = 30 := zz_bE_t (by omega) (by omega) h20
      refine Ev.run [(.bipush (-4), 2)] (pc' := 25) (L' := [some (.ref 359), some (.int x)]) (S' := [.int ((-4))]) rfl (by decide +kernel) rfl ?_
      exact Ev.iret rfl (by decide +kernel) (⟨rfl, rfl⟩)
  · exact absurd hx h5

set_option maxRecDepth 100000 in
set_option maxHeartbeats 4000000 in
theorem c_X7_say_k {sc : Nat × (Nat → Int32)} {d : Nat} (I : Nat → Nat → Int32) (J : Nat → Nat → Int64) (np : Nat) (hn : I 359 0 = nI np) (hnp : np ≤ 30) (x : Int32) (hx : nI 33 ≤ x ∧ x ≤ nI 126) (hf : np < 30) : EvM sc (d + 1) 0 0 mX7_say [.ref 359, .int x] (zz_SH, I, J) (zz_is (.int (nI (np + 1))) (zz_SH, zz_up (zz_up I 360 np x) 359 0 (nI (np + 1)), J)) := by
  refine EvM.of (by decide) rfl (Nat.le_of_ble_eq_true rfl) ?_
  show Ev _ _ _ _ _ 0 [some (.ref 359), some (.int x)] [] (zz_SH, I, J) _
  refine Ev.run [(.iload_n 1, 1), (.bipush 33, 2), (.bipush 126, 2)] (pc' := 5) (L' := [some (.ref 359), some (.int x)]) (S' := [.int (nI 126), .int (nI 33), .int x]) rfl (by decide +kernel) rfl ?_
  refine Ev.callS0 mX7_in [.int x, .int (nI 33), .int (nI 126)] [] _ rfl lk_RX7_79 (by decide +kernel) rfl (Nat.le_of_ble_eq_true rfl) (c_X7_in I J x (nI 33) (nI 126)) ?_
  rintro _ _ ⟨rfl, ⟨rfl, h5⟩ | ⟨rfl, h5⟩⟩
  · show Ev _ _ _ _ _ 8 [some (.ref 359), some (.int x)] [.int (nI 1)] (zz_SH, I, J) _
    refine Ev.if_ne (off := 6) (tgt := 14) (by decide +kernel) (by decide) (fun h8 => ?_) (fun h8 => absurd h8 (by decide))
    refine Ev.run [(.aload_n 0, 1), (.getfield 86, 3)] (pc' := 18) (L' := [some (.ref 359), some (.int x)]) (S' := [.int (I 359 0)]) rfl (by decide +kernel) rfl ?_
    rw [hn]
    refine Ev.run [(.bipush 30, 2)] (pc' := 20) (L' := [some (.ref 359), some (.int x)]) (S' := [.int (nI 30), .int (nI np)]) rfl (by decide +kernel) rfl ?_
    refine Ev.icmp_ne (off := 6) (tgt := 26) (by decide +kernel) (by decide) (fun h20 => ?_) (fun h20 => ?_)
    · have h20 : ¬ np = 30 := zz_bE_f (by omega) (by omega) h20
      refine Ev.run [(.aload_n 0, 1), (.getfield 7, 3), (.aload_n 0, 1), (.getfield 86, 3)] (pc' := 34) (L' := [some (.ref 359), some (.int x)]) (S' := [.int (I 359 0), .ref 360]) rfl (by decide +kernel) rfl ?_
      rw [hn]
      refine Ev.run [(.iload_n 1, 1)] (pc' := 35) (L' := [some (.ref 359), some (.int x)]) (S' := [.int x, .int (nI np), .ref 360]) rfl (by decide +kernel) rfl ?_
      refine Ev.iast np (by decide +kernel) (rfl) (rfl) (by omega) (by first | decide | omega) ?_
      dsimp only
      refine Ev.run [(.aload_n 0, 1), (.dup, 1), (.getfield 86, 3)] (pc' := 41) (L' := [some (.ref 359), some (.int x)]) (S' := [.int ((zz_up I 360 np x) 359 0), .ref 359]) rfl (by decide +kernel) rfl ?_
      rw [show (zz_up I 360 np x) 359 0 = nI np from by rw [zz_up_ne (by decide)]; exact hn]
      refine Ev.run [(.iconst 1, 1), (.iadd, 1)] (pc' := 43) (L' := [some (.ref 359), some (.int x)]) (S' := [.int (nI np + nI 1), .ref 359]) rfl (by decide +kernel) rfl ?_
      rw [nI_add np 1]
      refine Ev.putf (idx := 86) rfl rfl rfl (by decide +kernel) (rfl) rfl ?_
      dsimp only
      refine Ev.run [(.aload_n 0, 1), (.getfield 86, 3)] (pc' := 50) (L' := [some (.ref 359), some (.int x)]) (S' := [.int ((zz_up (zz_up I 360 np x) 359 0 (nI (np + 1))) 359 0)]) rfl (by decide +kernel) rfl ?_
      rw [show (zz_up (zz_up I 360 np x) 359 0 (nI (np + 1))) 359 0 = nI (np + 1) from by rw [zz_up_eq, zz_ups]]
      exact Ev.iret rfl (by decide +kernel) (⟨rfl, rfl⟩)
    · have h20 : np = 30 := zz_bE_t (by omega) (by omega) h20
      exfalso; omega
  · exact absurd hx h5

set_option maxRecDepth 100000 in
set_option maxHeartbeats 4000000 in
theorem c_X7_wipe {sc : Nat × (Nat → Int32)} {d : Nat} (I : Nat → Nat → Int32) (J : Nat → Nat → Int64) (np : Nat) (hn : I 359 0 = nI np) (hnp : np ≤ 30) : EvM sc (d) 0 0 mX7_wipe [.ref 359] (zz_SH, I, J) (zz_is (.int (nI np)) (zz_SH, zz_up I 359 0 (nI 0), J)) := by
  refine EvM.of (by decide) rfl (Nat.le_of_ble_eq_true rfl) ?_
  show Ev _ _ _ _ _ 0 [some (.ref 359), none] [] (zz_SH, I, J) _
  refine Ev.run [(.aload_n 0, 1), (.getfield 86, 3)] (pc' := 4) (L' := [some (.ref 359), none]) (S' := [.int (I 359 0)]) rfl (by decide +kernel) rfl ?_
  rw [hn]
  refine Ev.run [(.istore_n 1, 1), (.aload_n 0, 1), (.iconst 0, 1)] (pc' := 7) (L' := [some (.ref 359), some (.int (nI np))]) (S' := [.int (nI 0), .ref 359]) rfl (by decide +kernel) rfl ?_
  refine Ev.putf (idx := 86) rfl rfl rfl (by decide +kernel) (rfl) rfl ?_
  dsimp only
  refine Ev.run [(.iload_n 1, 1)] (pc' := 11) (L' := [some (.ref 359), some (.int (nI np))]) (S' := [.int (nI np)]) rfl (by decide +kernel) rfl ?_
  exact Ev.iret rfl (by decide +kernel) (⟨rfl, rfl⟩)

set_option maxRecDepth 100000 in
set_option maxHeartbeats 4000000 in
theorem c_X7_rate_o {sc : Nat × (Nat → Int32)} {d : Nat} (I : Nat → Nat → Int32) (J : Nat → Nat → Int64) (x y : Int32) (hxy : ¬ (zz_ix x 5 ∧ zz_ix y 100)) : EvM sc (d + 1) 0 0 mX7_rate [.ref 359, .int x, .int y] (zz_SH, I, J) (zz_is (.int (-2)) (zz_SH, I, J)) := by
  refine EvM.of (by decide) rfl (Nat.le_of_ble_eq_true rfl) ?_
  show Ev _ _ _ _ _ 0 [some (.ref 359), some (.int x), some (.int y), none] [] (zz_SH, I, J) _
  refine Ev.run [(.iload_n 1, 1), (.iconst 0, 1), (.iconst 4, 1)] (pc' := 3) (L' := [some (.ref 359), some (.int x), some (.int y), none]) (S' := [.int (nI 4), .int (nI 0), .int x]) rfl (by decide +kernel) rfl ?_
  refine Ev.callS0 mX7_in [.int x, .int (nI 0), .int (nI 4)] [] _ rfl lk_RX7_79 (by decide +kernel) rfl (Nat.le_of_ble_eq_true rfl) (c_X7_in I J x (nI 0) (nI 4)) ?_
  rintro _ _ ⟨rfl, ⟨rfl, h3⟩ | ⟨rfl, h3⟩⟩
  · show Ev _ _ _ _ _ 6 [some (.ref 359), some (.int x), some (.int y), none] [.int (nI 1)] (zz_SH, I, J) _
    rw [show (nI 4 : Int32) = nI 5 - nI 1 by decide, zz_ix_iff (by decide)] at h3
    refine Ev.if_eq (off := 13) (tgt := 19) (by decide +kernel) (by decide) (fun h6 => absurd h6 (by decide)) (fun h6 => ?_)
    refine Ev.run [(.iload_n 2, 1), (.iconst 0, 1), (.bipush 99, 2)] (pc' := 13) (L' := [some (.ref 359), some (.int x), some (.int y), none]) (S' := [.int (nI 99), .int (nI 0), .int y]) rfl (by decide +kernel) rfl ?_
    refine Ev.callS0 mX7_in [.int y, .int (nI 0), .int (nI 99)] [] _ rfl lk_RX7_79 (by decide +kernel) rfl (Nat.le_of_ble_eq_true rfl) (c_X7_in I J y (nI 0) (nI 99)) ?_
    rintro _ _ ⟨rfl, ⟨rfl, h13⟩ | ⟨rfl, h13⟩⟩
    · rw [show (nI 99 : Int32) = nI 100 - nI 1 by decide, zz_ix_iff (by decide)] at h13; exact absurd ⟨h3, h13⟩ hxy
    · show Ev _ _ _ _ _ 16 [some (.ref 359), some (.int x), some (.int y), none] [.int (nI 0)] (zz_SH, I, J) _
      refine Ev.if_ne (off := 6) (tgt := 22) (by decide +kernel) (by decide) (fun h16 => absurd h16 (by decide)) (fun h16 => ?_)
      refine Ev.run [(.bipush (-2), 2)] (pc' := 21) (L' := [some (.ref 359), some (.int x), some (.int y), none]) (S' := [.int ((-2))]) rfl (by decide +kernel) rfl ?_
      exact Ev.iret rfl (by decide +kernel) (⟨rfl, rfl⟩)
  · show Ev _ _ _ _ _ 6 [some (.ref 359), some (.int x), some (.int y), none] [.int (nI 0)] (zz_SH, I, J) _
    refine Ev.if_eq (off := 13) (tgt := 19) (by decide +kernel) (by decide) (fun h6 => ?_) (fun h6 => absurd h6 (by decide))
    refine Ev.run [(.bipush (-2), 2)] (pc' := 21) (L' := [some (.ref 359), some (.int x), some (.int y), none]) (S' := [.int ((-2))]) rfl (by decide +kernel) rfl ?_
    exact Ev.iret rfl (by decide +kernel) (⟨rfl, rfl⟩)

set_option maxRecDepth 100000 in
set_option maxHeartbeats 4000000 in
theorem c_X7_rate_k {sc : Nat × (Nat → Int32)} {d : Nat} (I : Nat → Nat → Int32) (J : Nat → Nat → Int64) (A : zA) (hV : MV (zVm I) A) (hW : WF A) (b v : Nat) (hb : b < 5) (hv : v < 100) : EvM sc (d + 1) 0 0 mX7_rate [.ref 359, .int (nI b), .int (nI v)] (zz_SH, I, J) (zz_is (.int (nI (rt A b))) (zz_SH, zz_up I 368 b (nI v), J)) := by
  have w1 := hW.1.1
  have w2 := hW.1.2.1
  refine EvM.of (by decide) rfl (Nat.le_of_ble_eq_true rfl) ?_
  show Ev _ _ _ _ _ 0 [some (.ref 359), some (.int (nI b)), some (.int (nI v)), none] [] (zz_SH, I, J) _
  refine Ev.run [(.iload_n 1, 1), (.iconst 0, 1), (.iconst 4, 1)] (pc' := 3) (L' := [some (.ref 359), some (.int (nI b)), some (.int (nI v)), none]) (S' := [.int (nI 4), .int (nI 0), .int (nI b)]) rfl (by decide +kernel) rfl ?_
  refine Ev.callS0 mX7_in [.int (nI b), .int (nI 0), .int (nI 4)] [] _ rfl lk_RX7_79 (by decide +kernel) rfl (Nat.le_of_ble_eq_true rfl) (c_X7_in I J (nI b) (nI 0) (nI 4)) ?_
  rintro _ _ ⟨rfl, ⟨rfl, h3⟩ | ⟨rfl, h3⟩⟩
  · show Ev _ _ _ _ _ 6 [some (.ref 359), some (.int (nI b)), some (.int (nI v)), none] [.int (nI 1)] (zz_SH, I, J) _
    refine Ev.if_eq (off := 13) (tgt := 19) (by decide +kernel) (by decide) (fun h6 => absurd h6 (by decide)) (fun h6 => ?_)
    refine Ev.run [(.iload_n 2, 1), (.iconst 0, 1), (.bipush 99, 2)] (pc' := 13) (L' := [some (.ref 359), some (.int (nI b)), some (.int (nI v)), none]) (S' := [.int (nI 99), .int (nI 0), .int (nI v)]) rfl (by decide +kernel) rfl ?_
    refine Ev.callS0 mX7_in [.int (nI v), .int (nI 0), .int (nI 99)] [] _ rfl lk_RX7_79 (by decide +kernel) rfl (Nat.le_of_ble_eq_true rfl) (c_X7_in I J (nI v) (nI 0) (nI 99)) ?_
    rintro _ _ ⟨rfl, ⟨rfl, h13⟩ | ⟨rfl, h13⟩⟩
    · show Ev _ _ _ _ _ 16 [some (.ref 359), some (.int (nI b)), some (.int (nI v)), none] [.int (nI 1)] (zz_SH, I, J) _
      refine Ev.if_ne (off := 6) (tgt := 22) (by decide +kernel) (by decide) (fun h16 => ?_) (fun h16 => absurd h16 (by decide))
      refine Ev.run [(.aload_n 0, 1), (.getfield 34, 3), (.iload_n 1, 1)] (pc' := 27) (L' := [some (.ref 359), some (.int (nI b)), some (.int (nI v)), none]) (S' := [.int (nI b), .ref 368]) rfl (by decide +kernel) rfl ?_
      refine Ev.iald b (by decide +kernel) (rfl) (rfl) (by omega) (by first | decide | omega) ?_
      dsimp only
      rw [show I 368 b = nI (rt A b) from hV.2.2.2.1 b hb]
      refine Ev.run [(.istore_n 3, 1), (.aload_n 0, 1), (.getfield 34, 3), (.iload_n 1, 1), (.iload_n 2, 1)] (pc' := 35) (L' := [some (.ref 359), some (.int (nI b)), some (.int (nI v)), some (.int (nI (rt A b)))]) (S' := [.int (nI v), .int (nI b), .ref 368]) rfl (by decide +kernel) rfl ?_
      refine Ev.iast b (by decide +kernel) (rfl) (rfl) (by omega) (by first | decide | omega) ?_
      dsimp only
      refine Ev.run [(.iload_n 3, 1)] (pc' := 37) (L' := [some (.ref 359), some (.int (nI b)), some (.int (nI v)), some (.int (nI (rt A b)))]) (S' := [.int (nI (rt A b))]) rfl (by decide +kernel) rfl ?_
      exact Ev.iret rfl (by decide +kernel) (⟨rfl, rfl⟩)
    · exact absurd ((zz_rng (by decide) (by decide) (by omega)).mpr (show 0 ≤ v ∧ v ≤ 99 by omega)) h13
  · exact absurd ((zz_rng (by decide) (by decide) (by omega)).mpr (show 0 ≤ b ∧ b ≤ 4 by omega)) h3

set_option maxRecDepth 100000 in
set_option maxHeartbeats 4000000 in
theorem c_X7_must_u {sc : Nat × (Nat → Int32)} {d : Nat} (I : Nat → Nat → Int32) (J : Nat → Nat → Int64) (x y : Int32) (hx : ¬ zz_ix x 16) : EvM sc (d + 2) 0 0 mX7_must [.ref 359, .int x, .int y] (zz_SH, I, J) (zz_is (.int (-1)) (zz_SH, I, J)) := by
  refine EvM.of (by decide) rfl (Nat.le_of_ble_eq_true rfl) ?_
  show Ev _ _ _ _ _ 0 [some (.ref 359), some (.int x), some (.int y), none] [] (zz_SH, I, J) _
  refine Ev.run [(.iload_n 1, 1)] (pc' := 1) (L' := [some (.ref 359), some (.int x), some (.int y), none]) (S' := [.int x]) rfl (by decide +kernel) rfl ?_
  refine Ev.callS0 mX7_isWord [.int x] [] _ rfl lk_RX7_162 (by decide +kernel) rfl (Nat.le_of_ble_eq_true rfl) (c_X7_isWord I J x) ?_
  rintro _ _ ⟨rfl, ⟨rfl, h1⟩ | ⟨rfl, h1⟩⟩
  · exact absurd h1 hx
  · show Ev _ _ _ _ _ 4 [some (.ref 359), some (.int x), some (.int y), none] [.int (nI 0)] (zz_SH, I, J) _
    refine Ev.if_ne (off := 5) (tgt := 9) (by decide +kernel) (by decide) (fun h4 => absurd h4 (by decide)) (fun h4 => ?_)
    refine Ev.run [(.iconst (-1), 1)] (pc' := 8) (L' := [some (.ref 359), some (.int x), some (.int y), none]) (S' := [.int ((-1))]) rfl (by decide +kernel) rfl ?_
    exact Ev.iret rfl (by decide +kernel) (⟨rfl, rfl⟩)

set_option maxRecDepth 100000 in
set_option maxHeartbeats 4000000 in
theorem c_X7_must_o {sc : Nat × (Nat → Int32)} {d : Nat} (I : Nat → Nat → Int32) (J : Nat → Nat → Int64) (w : Nat) (hw : w < 16) (y : Int32) (hy : ¬ ((-1) ≤ y ∧ y ≤ nI 15)) : EvM sc (d + 2) 0 0 mX7_must [.ref 359, .int (nI w), .int y] (zz_SH, I, J) (zz_is (.int (-2)) (zz_SH, I, J)) := by
  refine EvM.of (by decide) rfl (Nat.le_of_ble_eq_true rfl) ?_
  show Ev _ _ _ _ _ 0 [some (.ref 359), some (.int (nI w)), some (.int y), none] [] (zz_SH, I, J) _
  refine Ev.run [(.iload_n 1, 1)] (pc' := 1) (L' := [some (.ref 359), some (.int (nI w)), some (.int y), none]) (S' := [.int (nI w)]) rfl (by decide +kernel) rfl ?_
  refine Ev.callS0 mX7_isWord [.int (nI w)] [] _ rfl lk_RX7_162 (by decide +kernel) rfl (Nat.le_of_ble_eq_true rfl) (c_X7_isWord I J (nI w)) ?_
  rintro _ _ ⟨rfl, ⟨rfl, h1⟩ | ⟨rfl, h1⟩⟩
  · show Ev _ _ _ _ _ 4 [some (.ref 359), some (.int (nI w)), some (.int y), none] [.int (nI 1)] (zz_SH, I, J) _
    refine Ev.if_ne (off := 5) (tgt := 9) (by decide +kernel) (by decide) (fun h4 => ?_) (fun h4 => absurd h4 (by decide))
    refine Ev.run [(.iload_n 2, 1), (.iconst (-1), 1), (.bipush 15, 2)] (pc' := 13) (L' := [some (.ref 359), some (.int (nI w)), some (.int y), none]) (S' := [.int (nI 15), .int ((-1)), .int y]) rfl (by decide +kernel) rfl ?_
    refine Ev.callS0 mX7_in [.int y, .int ((-1)), .int (nI 15)] [] _ rfl lk_RX7_79 (by decide +kernel) rfl (Nat.le_of_ble_eq_true rfl) (c_X7_in I J y ((-1)) (nI 15)) ?_
    rintro _ _ ⟨rfl, ⟨rfl, h13⟩ | ⟨rfl, h13⟩⟩
    · exact absurd h13 hy
    · show Ev _ _ _ _ _ 16 [some (.ref 359), some (.int (nI w)), some (.int y), none] [.int (nI 0)] (zz_SH, I, J) _
      refine Ev.if_ne (off := 6) (tgt := 22) (by decide +kernel) (by decide) (fun h16 => absurd h16 (by decide)) (fun h16 => ?_)
      refine Ev.run [(.bipush (-2), 2)] (pc' := 21) (L' := [some (.ref 359), some (.int (nI w)), some (.int y), none]) (S' := [.int ((-2))]) rfl (by decide +kernel) rfl ?_
      exact Ev.iret rfl (by decide +kernel) (⟨rfl, rfl⟩)
  · exact absurd ⟨w, hw, rfl⟩ h1

set_option maxRecDepth 100000 in
set_option maxHeartbeats 4000000 in
theorem c_X7_must_n {sc : Nat × (Nat → Int32)} {d : Nat} (I : Nat → Nat → Int32) (J : Nat → Nat → Int64) (A : zA) (hV : MV (zVm I) A) (hW : WF A) (w : Nat) (hw : w < 16) : EvM sc (d + 2) 0 0 mX7_must [.ref 359, .int (nI w), .int ((-1))] (zz_SH, I, J) (zz_is (.int (ob (mu A w))) (zz_SH, zz_up I 369 w (ob none), J)) := by
  have w1 := hW.1.1
  have w2 := hW.1.2.1
  refine EvM.of (by decide) rfl (Nat.le_of_ble_eq_true rfl) ?_
  show Ev _ _ _ _ _ 0 [some (.ref 359), some (.int (nI w)), some (.int ((-1))), none] [] (zz_SH, I, J) _
  refine Ev.run [(.iload_n 1, 1)] (pc' := 1) (L' := [some (.ref 359), some (.int (nI w)), some (.int ((-1))), none]) (S' := [.int (nI w)]) rfl (by decide +kernel) rfl ?_
  refine Ev.callS0 mX7_isWord [.int (nI w)] [] _ rfl lk_RX7_162 (by decide +kernel) rfl (Nat.le_of_ble_eq_true rfl) (c_X7_isWord I J (nI w)) ?_
  rintro _ _ ⟨rfl, ⟨rfl, h1⟩ | ⟨rfl, h1⟩⟩
  · show Ev _ _ _ _ _ 4 [some (.ref 359), some (.int (nI w)), some (.int ((-1))), none] [.int (nI 1)] (zz_SH, I, J) _
    refine Ev.if_ne (off := 5) (tgt := 9) (by decide +kernel) (by decide) (fun h4 => ?_) (fun h4 => absurd h4 (by decide))
    refine Ev.run [(.iload_n 2, 1), (.iconst (-1), 1), (.bipush 15, 2)] (pc' := 13) (L' := [some (.ref 359), some (.int (nI w)), some (.int ((-1))), none]) (S' := [.int (nI 15), .int ((-1)), .int ((-1))]) rfl (by decide +kernel) rfl ?_
    refine Ev.callS0 mX7_in [.int ((-1)), .int ((-1)), .int (nI 15)] [] _ rfl lk_RX7_79 (by decide +kernel) rfl (Nat.le_of_ble_eq_true rfl) (c_X7_in I J ((-1)) ((-1)) (nI 15)) ?_
    rintro _ _ ⟨rfl, ⟨rfl, h13⟩ | ⟨rfl, h13⟩⟩
    · show Ev _ _ _ _ _ 16 [some (.ref 359), some (.int (nI w)), some (.int ((-1))), none] [.int (nI 1)] (zz_SH, I, J) _
      refine Ev.if_ne (off := 6) (tgt := 22) (by decide +kernel) (by decide) (fun h16 => ?_) (fun h16 => absurd h16 (by decide))
      refine Ev.run [(.aload_n 0, 1), (.getfield 37, 3), (.iload_n 1, 1)] (pc' := 27) (L' := [some (.ref 359), some (.int (nI w)), some (.int ((-1))), none]) (S' := [.int (nI w), .ref 369]) rfl (by decide +kernel) rfl ?_
      refine Ev.iald w (by decide +kernel) (rfl) (rfl) (by omega) (by first | decide | omega) ?_
      dsimp only
      rw [show I 369 w = ob (mu A w) from hV.2.2.2.2.1 w hw]
      refine Ev.run [(.istore_n 3, 1), (.aload_n 0, 1), (.getfield 37, 3), (.iload_n 1, 1), (.iload_n 2, 1)] (pc' := 35) (L' := [some (.ref 359), some (.int (nI w)), some (.int ((-1))), some (.int (ob (mu A w)))]) (S' := [.int ((-1)), .int (nI w), .ref 369]) rfl (by decide +kernel) rfl ?_
      refine Ev.if_ge (off := 8) (tgt := 43) (by decide +kernel) (by decide) (fun h35 => absurd h35 (by decide)) (fun h35 => ?_)
      refine Ev.run [(.bipush (-6), 2)] (pc' := 40) (L' := [some (.ref 359), some (.int (nI w)), some (.int ((-1))), some (.int (ob (mu A w)))]) (S' := [.int ((-6)), .int (nI w), .ref 369]) rfl (by decide +kernel) rfl ?_
      refine Ev.goto (off := 4) (tgt := 44) (by decide +kernel) (by decide) ?_
      refine Ev.iast w (by decide +kernel) (rfl) (rfl) (by omega) (by first | decide | omega) ?_
      dsimp only
      refine Ev.run [(.iload_n 3, 1)] (pc' := 46) (L' := [some (.ref 359), some (.int (nI w)), some (.int ((-1))), some (.int (ob (mu A w)))]) (S' := [.int (ob (mu A w))]) rfl (by decide +kernel) rfl ?_
      exact Ev.iret rfl (by decide +kernel) (⟨rfl, rfl⟩)
    · exact absurd (by decide) h13
  · exact absurd ⟨w, hw, rfl⟩ h1

set_option maxRecDepth 100000 in
set_option maxHeartbeats 4000000 in
theorem c_X7_must_s {sc : Nat × (Nat → Int32)} {d : Nat} (I : Nat → Nat → Int32) (J : Nat → Nat → Int64) (A : zA) (hV : MV (zVm I) A) (hW : WF A) (w a : Nat) (hw : w < 16) (ha : a < 16) : EvM sc (d + 2) 0 0 mX7_must [.ref 359, .int (nI w), .int (nI a)] (zz_SH, I, J) (zz_is (.int (ob (mu A w))) (zz_SH, zz_up I 369 w (ob (some a)), J)) := by
  have w1 := hW.1.1
  have w2 := hW.1.2.1
  refine EvM.of (by decide) rfl (Nat.le_of_ble_eq_true rfl) ?_
  show Ev _ _ _ _ _ 0 [some (.ref 359), some (.int (nI w)), some (.int (nI a)), none] [] (zz_SH, I, J) _
  refine Ev.run [(.iload_n 1, 1)] (pc' := 1) (L' := [some (.ref 359), some (.int (nI w)), some (.int (nI a)), none]) (S' := [.int (nI w)]) rfl (by decide +kernel) rfl ?_
  refine Ev.callS0 mX7_isWord [.int (nI w)] [] _ rfl lk_RX7_162 (by decide +kernel) rfl (Nat.le_of_ble_eq_true rfl) (c_X7_isWord I J (nI w)) ?_
  rintro _ _ ⟨rfl, ⟨rfl, h1⟩ | ⟨rfl, h1⟩⟩
  · show Ev _ _ _ _ _ 4 [some (.ref 359), some (.int (nI w)), some (.int (nI a)), none] [.int (nI 1)] (zz_SH, I, J) _
    refine Ev.if_ne (off := 5) (tgt := 9) (by decide +kernel) (by decide) (fun h4 => ?_) (fun h4 => absurd h4 (by decide))
    refine Ev.run [(.iload_n 2, 1), (.iconst (-1), 1), (.bipush 15, 2)] (pc' := 13) (L' := [some (.ref 359), some (.int (nI w)), some (.int (nI a)), none]) (S' := [.int (nI 15), .int ((-1)), .int (nI a)]) rfl (by decide +kernel) rfl ?_
    refine Ev.callS0 mX7_in [.int (nI a), .int ((-1)), .int (nI 15)] [] _ rfl lk_RX7_79 (by decide +kernel) rfl (Nat.le_of_ble_eq_true rfl) (c_X7_in I J (nI a) ((-1)) (nI 15)) ?_
    rintro _ _ ⟨rfl, ⟨rfl, h13⟩ | ⟨rfl, h13⟩⟩
    · show Ev _ _ _ _ _ 16 [some (.ref 359), some (.int (nI w)), some (.int (nI a)), none] [.int (nI 1)] (zz_SH, I, J) _
      refine Ev.if_ne (off := 6) (tgt := 22) (by decide +kernel) (by decide) (fun h16 => ?_) (fun h16 => absurd h16 (by decide))
      refine Ev.run [(.aload_n 0, 1), (.getfield 37, 3), (.iload_n 1, 1)] (pc' := 27) (L' := [some (.ref 359), some (.int (nI w)), some (.int (nI a)), none]) (S' := [.int (nI w), .ref 369]) rfl (by decide +kernel) rfl ?_
      refine Ev.iald w (by decide +kernel) (rfl) (rfl) (by omega) (by first | decide | omega) ?_
      dsimp only
      rw [show I 369 w = ob (mu A w) from hV.2.2.2.2.1 w hw]
      refine Ev.run [(.istore_n 3, 1), (.aload_n 0, 1), (.getfield 37, 3), (.iload_n 1, 1), (.iload_n 2, 1)] (pc' := 35) (L' := [some (.ref 359), some (.int (nI w)), some (.int (nI a)), some (.int (ob (mu A w)))]) (S' := [.int (nI a), .int (nI w), .ref 369]) rfl (by decide +kernel) rfl ?_
      refine Ev.if_ge (off := 8) (tgt := 43) (by decide +kernel) (by decide) (fun h35 => ?_) (fun h35 => ?_)
      · have h35 : a ≥ 0 := zz_bG_t (by omega) (by omega) h35
        refine Ev.run [(.iload_n 2, 1)] (pc' := 44) (L' := [some (.ref 359), some (.int (nI w)), some (.int (nI a)), some (.int (ob (mu A w)))]) (S' := [.int (nI a), .int (nI w), .ref 369]) rfl (by decide +kernel) rfl ?_
        refine Ev.iast w (by decide +kernel) (rfl) (rfl) (by omega) (by first | decide | omega) ?_
        dsimp only
        refine Ev.run [(.iload_n 3, 1)] (pc' := 46) (L' := [some (.ref 359), some (.int (nI w)), some (.int (nI a)), some (.int (ob (mu A w)))]) (S' := [.int (ob (mu A w))]) rfl (by decide +kernel) rfl ?_
        exact Ev.iret rfl (by decide +kernel) (⟨rfl, rfl⟩)
      · have h35 : a < 0 := zz_bG_f (by omega) (by omega) h35
        exfalso; omega
    · exact absurd (⟨Int32.le_trans (show (-1 : Int32) ≤ nI 0 by decide) (nI_le (Nat.zero_le a) (by omega)), nI_le (by omega) (by decide)⟩) h13
  · exact absurd ⟨w, hw, rfl⟩ h1

set_option maxRecDepth 100000 in
set_option maxHeartbeats 4000000 in
theorem c_X7_length_o {sc : Nat × (Nat → Int32)} {d : Nat} (I : Nat → Nat → Int32) (J : Nat → Nat → Int64) (x y : Int32) (hxy : ¬ (zz_ix x 2 ∧ (nI 1 ≤ y ∧ y ≤ nI 99))) : EvM sc (d + 1) 0 0 mX7_length [.ref 359, .int x, .int y] (zz_SH, I, J) (zz_is (.int (-2)) (zz_SH, I, J)) := by
  refine EvM.of (by decide) rfl (Nat.le_of_ble_eq_true rfl) ?_
  show Ev _ _ _ _ _ 0 [some (.ref 359), some (.int x), some (.int y)] [] (zz_SH, I, J) _
  refine Ev.run [(.iload_n 1, 1), (.iconst 0, 1), (.iconst 1, 1)] (pc' := 3) (L' := [some (.ref 359), some (.int x), some (.int y)]) (S' := [.int (nI 1), .int (nI 0), .int x]) rfl (by decide +kernel) rfl ?_
  refine Ev.callS0 mX7_in [.int x, .int (nI 0), .int (nI 1)] [] _ rfl lk_RX7_79 (by decide +kernel) rfl (Nat.le_of_ble_eq_true rfl) (c_X7_in I J x (nI 0) (nI 1)) ?_
  rintro _ _ ⟨rfl, ⟨rfl, h3⟩ | ⟨rfl, h3⟩⟩
  · show Ev _ _ _ _ _ 6 [some (.ref 359), some (.int x), some (.int y)] [.int (nI 1)] (zz_SH, I, J) _
    rw [show (nI 1 : Int32) = nI 2 - nI 1 by decide, zz_ix_iff (by decide)] at h3
    refine Ev.if_eq (off := 13) (tgt := 19) (by decide +kernel) (by decide) (fun h6 => absurd h6 (by decide)) (fun h6 => ?_)
    refine Ev.run [(.iload_n 2, 1), (.iconst 1, 1), (.bipush 99, 2)] (pc' := 13) (L' := [some (.ref 359), some (.int x), some (.int y)]) (S' := [.int (nI 99), .int (nI 1), .int y]) rfl (by decide +kernel) rfl ?_
    refine Ev.callS0 mX7_in [.int y, .int (nI 1), .int (nI 99)] [] _ rfl lk_RX7_79 (by decide +kernel) rfl (Nat.le_of_ble_eq_true rfl) (c_X7_in I J y (nI 1) (nI 99)) ?_
    rintro _ _ ⟨rfl, ⟨rfl, h13⟩ | ⟨rfl, h13⟩⟩
    · exact absurd ⟨h3, h13⟩ hxy
    · show Ev _ _ _ _ _ 16 [some (.ref 359), some (.int x), some (.int y)] [.int (nI 0)] (zz_SH, I, J) _
      refine Ev.if_ne (off := 6) (tgt := 22) (by decide +kernel) (by decide) (fun h16 => absurd h16 (by decide)) (fun h16 => ?_)
      refine Ev.run [(.bipush (-2), 2)] (pc' := 21) (L' := [some (.ref 359), some (.int x), some (.int y)]) (S' := [.int ((-2))]) rfl (by decide +kernel) rfl ?_
      exact Ev.iret rfl (by decide +kernel) (⟨rfl, rfl⟩)
  · show Ev _ _ _ _ _ 6 [some (.ref 359), some (.int x), some (.int y)] [.int (nI 0)] (zz_SH, I, J) _
    refine Ev.if_eq (off := 13) (tgt := 19) (by decide +kernel) (by decide) (fun h6 => ?_) (fun h6 => absurd h6 (by decide))
    refine Ev.run [(.bipush (-2), 2)] (pc' := 21) (L' := [some (.ref 359), some (.int x), some (.int y)]) (S' := [.int ((-2))]) rfl (by decide +kernel) rfl ?_
    exact Ev.iret rfl (by decide +kernel) (⟨rfl, rfl⟩)

set_option maxRecDepth 100000 in
set_option maxHeartbeats 4000000 in
theorem c_X7_length_f0 {sc : Nat × (Nat → Int32)} {d : Nat} (I : Nat → Nat → Int32) (J : Nat → Nat → Int64) (s : Nat) (hs : I 370 0 = nI s) (hs2 : s ≤ 12) (y : Int32) (hy : nI 1 ≤ y ∧ y ≤ nI 99) (hf : s = 12) : EvM sc (d + 1) 0 0 mX7_length [.ref 359, .int (nI 0), .int y] (zz_SH, I, J) (zz_is (.int (-4)) (zz_SH, I, J)) := by
  refine EvM.of (by decide) rfl (Nat.le_of_ble_eq_true rfl) ?_
  show Ev _ _ _ _ _ 0 [some (.ref 359), some (.int (nI 0)), some (.int y)] [] (zz_SH, I, J) _
  refine Ev.run [(.iload_n 1, 1), (.iconst 0, 1), (.iconst 1, 1)] (pc' := 3) (L' := [some (.ref 359), some (.int (nI 0)), some (.int y)]) (S' := [.int (nI 1), .int (nI 0), .int (nI 0)]) rfl (by decide +kernel) rfl ?_
  refine Ev.callS0 mX7_in [.int (nI 0), .int (nI 0), .int (nI 1)] [] _ rfl lk_RX7_79 (by decide +kernel) rfl (Nat.le_of_ble_eq_true rfl) (c_X7_in I J (nI 0) (nI 0) (nI 1)) ?_
  rintro _ _ ⟨rfl, ⟨rfl, h3⟩ | ⟨rfl, h3⟩⟩
  · show Ev _ _ _ _ _ 6 [some (.ref 359), some (.int (nI 0)), some (.int y)] [.int (nI 1)] (zz_SH, I, J) _
    refine Ev.if_eq (off := 13) (tgt := 19) (by decide +kernel) (by decide) (fun h6 => absurd h6 (by decide)) (fun h6 => ?_)
    refine Ev.run [(.iload_n 2, 1), (.iconst 1, 1), (.bipush 99, 2)] (pc' := 13) (L' := [some (.ref 359), some (.int (nI 0)), some (.int y)]) (S' := [.int (nI 99), .int (nI 1), .int y]) rfl (by decide +kernel) rfl ?_
    refine Ev.callS0 mX7_in [.int y, .int (nI 1), .int (nI 99)] [] _ rfl lk_RX7_79 (by decide +kernel) rfl (Nat.le_of_ble_eq_true rfl) (c_X7_in I J y (nI 1) (nI 99)) ?_
    rintro _ _ ⟨rfl, ⟨rfl, h13⟩ | ⟨rfl, h13⟩⟩
    · show Ev _ _ _ _ _ 16 [some (.ref 359), some (.int (nI 0)), some (.int y)] [.int (nI 1)] (zz_SH, I, J) _
      refine Ev.if_ne (off := 6) (tgt := 22) (by decide +kernel) (by decide) (fun h16 => ?_) (fun h16 => absurd h16 (by decide))
      refine Ev.run [(.aload_n 0, 1), (.getfield 40, 3), (.iload_n 1, 1)] (pc' := 27) (L' := [some (.ref 359), some (.int (nI 0)), some (.int y)]) (S' := [.int (nI 0), .ref 370]) rfl (by decide +kernel) rfl ?_
      refine Ev.iald 0 (by decide +kernel) (rfl) (rfl) (by omega) (by first | decide | omega) ?_
      dsimp only
      rw [show I 370 0 = nI s from hs]
      refine Ev.run [(.bipush 12, 2)] (pc' := 30) (L' := [some (.ref 359), some (.int (nI 0)), some (.int y)]) (S' := [.int (nI 12), .int (nI s)]) rfl (by decide +kernel) rfl ?_
      refine Ev.icmp_ne (off := 6) (tgt := 36) (by decide +kernel) (by decide) (fun h30 => ?_) (fun h30 => ?_)
      · have h30 : ¬ s = 12 := zz_bE_f (by omega) (by omega) h30
        exfalso; omega
      · have h30 : s = 12 := zz_bE_t (by omega) (by omega) h30
        refine Ev.run [(.bipush (-4), 2)] (pc' := 35) (L' := [some (.ref 359), some (.int (nI 0)), some (.int y)]) (S' := [.int ((-4))]) rfl (by decide +kernel) rfl ?_
        exact Ev.iret rfl (by decide +kernel) (⟨rfl, rfl⟩)
    · exact absurd hy h13
  · exact absurd (by decide) h3

set_option maxRecDepth 100000 in
set_option maxHeartbeats 4000000 in
theorem c_X7_length_k0 {sc : Nat × (Nat → Int32)} {d : Nat} (I : Nat → Nat → Int32) (J : Nat → Nat → Int64) (s : Nat) (hs : I 370 0 = nI s) (hs2 : s ≤ 12) (y : Int32) (hy : nI 1 ≤ y ∧ y ≤ nI 99) (hf : s < 12) : EvM sc (d + 1) 0 0 mX7_length [.ref 359, .int (nI 0), .int y] (zz_SH, I, J) (zz_is (.int (nI (s + 1))) (zz_SH, zz_up (zz_up I 371 (12 * 0 + s) y) 370 0 (nI (s + 1)), J)) := by
  refine EvM.of (by decide) rfl (Nat.le_of_ble_eq_true rfl) ?_
  show Ev _ _ _ _ _ 0 [some (.ref 359), some (.int (nI 0)), some (.int y)] [] (zz_SH, I, J) _
  refine Ev.run [(.iload_n 1, 1), (.iconst 0, 1), (.iconst 1, 1)] (pc' := 3) (L' := [some (.ref 359), some (.int (nI 0)), some (.int y)]) (S' := [.int (nI 1), .int (nI 0), .int (nI 0)]) rfl (by decide +kernel) rfl ?_
  refine Ev.callS0 mX7_in [.int (nI 0), .int (nI 0), .int (nI 1)] [] _ rfl lk_RX7_79 (by decide +kernel) rfl (Nat.le_of_ble_eq_true rfl) (c_X7_in I J (nI 0) (nI 0) (nI 1)) ?_
  rintro _ _ ⟨rfl, ⟨rfl, h3⟩ | ⟨rfl, h3⟩⟩
  · show Ev _ _ _ _ _ 6 [some (.ref 359), some (.int (nI 0)), some (.int y)] [.int (nI 1)] (zz_SH, I, J) _
    refine Ev.if_eq (off := 13) (tgt := 19) (by decide +kernel) (by decide) (fun h6 => absurd h6 (by decide)) (fun h6 => ?_)
    refine Ev.run [(.iload_n 2, 1), (.iconst 1, 1), (.bipush 99, 2)] (pc' := 13) (L' := [some (.ref 359), some (.int (nI 0)), some (.int y)]) (S' := [.int (nI 99), .int (nI 1), .int y]) rfl (by decide +kernel) rfl ?_
    refine Ev.callS0 mX7_in [.int y, .int (nI 1), .int (nI 99)] [] _ rfl lk_RX7_79 (by decide +kernel) rfl (Nat.le_of_ble_eq_true rfl) (c_X7_in I J y (nI 1) (nI 99)) ?_
    rintro _ _ ⟨rfl, ⟨rfl, h13⟩ | ⟨rfl, h13⟩⟩
    · show Ev _ _ _ _ _ 16 [some (.ref 359), some (.int (nI 0)), some (.int y)] [.int (nI 1)] (zz_SH, I, J) _
      refine Ev.if_ne (off := 6) (tgt := 22) (by decide +kernel) (by decide) (fun h16 => ?_) (fun h16 => absurd h16 (by decide))
      refine Ev.run [(.aload_n 0, 1), (.getfield 40, 3), (.iload_n 1, 1)] (pc' := 27) (L' := [some (.ref 359), some (.int (nI 0)), some (.int y)]) (S' := [.int (nI 0), .ref 370]) rfl (by decide +kernel) rfl ?_
      refine Ev.iald 0 (by decide +kernel) (rfl) (rfl) (by omega) (by first | decide | omega) ?_
      dsimp only
      rw [show I 370 0 = nI s from hs]
      refine Ev.run [(.bipush 12, 2)] (pc' := 30) (L' := [some (.ref 359), some (.int (nI 0)), some (.int y)]) (S' := [.int (nI 12), .int (nI s)]) rfl (by decide +kernel) rfl ?_
      refine Ev.icmp_ne (off := 6) (tgt := 36) (by decide +kernel) (by decide) (fun h30 => ?_) (fun h30 => ?_)
      · have h30 : ¬ s = 12 := zz_bE_f (by omega) (by omega) h30
        refine Ev.run [(.aload_n 0, 1), (.getfield 43, 3), (.bipush 12, 2), (.iload_n 1, 1), (.imul, 1)] (pc' := 44) (L' := [some (.ref 359), some (.int (nI 0)), some (.int y)]) (S' := [.int (nI 12 * nI 0), .ref 371]) rfl (by decide +kernel) rfl ?_
        rw [pk_mul 12 0]
        refine Ev.run [(.aload_n 0, 1), (.getfield 40, 3), (.iload_n 1, 1)] (pc' := 49) (L' := [some (.ref 359), some (.int (nI 0)), some (.int y)]) (S' := [.int (nI 0), .ref 370, .int (nI (12 * 0)), .ref 371]) rfl (by decide +kernel) rfl ?_
        refine Ev.iald 0 (by decide +kernel) (rfl) (rfl) (by omega) (by first | decide | omega) ?_
        dsimp only
        rw [show I 370 0 = nI s from hs]
        refine Ev.run [(.iadd, 1)] (pc' := 51) (L' := [some (.ref 359), some (.int (nI 0)), some (.int y)]) (S' := [.int (nI (12 * 0) + nI s), .ref 371]) rfl (by decide +kernel) rfl ?_
        rw [nI_add (12 * 0) s]
        refine Ev.run [(.iload_n 2, 1)] (pc' := 52) (L' := [some (.ref 359), some (.int (nI 0)), some (.int y)]) (S' := [.int y, .int (nI ((12 * 0) + s)), .ref 371]) rfl (by decide +kernel) rfl ?_
        refine Ev.iast ((12 * 0) + s) (by decide +kernel) (rfl) (rfl) (by omega) (by first | decide | omega) ?_
        dsimp only
        refine Ev.run [(.aload_n 0, 1), (.getfield 40, 3), (.iload_n 1, 1), (.dup2, 1)] (pc' := 59) (L' := [some (.ref 359), some (.int (nI 0)), some (.int y)]) (S' := [.int (nI 0), .ref 370, .int (nI 0), .ref 370]) rfl (by decide +kernel) rfl ?_
        refine Ev.iald 0 (by decide +kernel) (rfl) (rfl) (by omega) (by first | decide | omega) ?_
        dsimp only
        rw [show (zz_up I 371 (12 * 0 + s) y) 370 0 = nI s from by rw [zz_up_ne (by decide)]; exact hs]
        refine Ev.run [(.iconst 1, 1), (.iadd, 1)] (pc' := 62) (L' := [some (.ref 359), some (.int (nI 0)), some (.int y)]) (S' := [.int (nI s + nI 1), .int (nI 0), .ref 370]) rfl (by decide +kernel) rfl ?_
        rw [nI_add s 1]
        refine Ev.iast 0 (by decide +kernel) (rfl) (rfl) (by omega) (by first | decide | omega) ?_
        dsimp only
        refine Ev.run [(.aload_n 0, 1), (.getfield 40, 3), (.iload_n 1, 1)] (pc' := 68) (L' := [some (.ref 359), some (.int (nI 0)), some (.int y)]) (S' := [.int (nI 0), .ref 370]) rfl (by decide +kernel) rfl ?_
        refine Ev.iald 0 (by decide +kernel) (rfl) (rfl) (by omega) (by first | decide | omega) ?_
        dsimp only
        rw [show (zz_up (zz_up I 371 (12 * 0 + s) y) 370 0 (nI (s + 1))) 370 0 = nI (s + 1) from by rw [zz_up_eq, zz_ups]]
        exact Ev.iret rfl (by decide +kernel) (⟨rfl, rfl⟩)
      · have h30 : s = 12 := zz_bE_t (by omega) (by omega) h30
        exfalso; omega
    · exact absurd hy h13
  · exact absurd (by decide) h3

set_option maxRecDepth 100000 in
set_option maxHeartbeats 4000000 in
theorem c_X7_length_f1 {sc : Nat × (Nat → Int32)} {d : Nat} (I : Nat → Nat → Int32) (J : Nat → Nat → Int64) (s : Nat) (hs : I 370 1 = nI s) (hs2 : s ≤ 12) (y : Int32) (hy : nI 1 ≤ y ∧ y ≤ nI 99) (hf : s = 12) : EvM sc (d + 1) 0 0 mX7_length [.ref 359, .int (nI 1), .int y] (zz_SH, I, J) (zz_is (.int (-4)) (zz_SH, I, J)) := by
  refine EvM.of (by decide) rfl (Nat.le_of_ble_eq_true rfl) ?_
  show Ev _ _ _ _ _ 0 [some (.ref 359), some (.int (nI 1)), some (.int y)] [] (zz_SH, I, J) _
  refine Ev.run [(.iload_n 1, 1), (.iconst 0, 1), (.iconst 1, 1)] (pc' := 3) (L' := [some (.ref 359), some (.int (nI 1)), some (.int y)]) (S' := [.int (nI 1), .int (nI 0), .int (nI 1)]) rfl (by decide +kernel) rfl ?_
  refine Ev.callS0 mX7_in [.int (nI 1), .int (nI 0), .int (nI 1)] [] _ rfl lk_RX7_79 (by decide +kernel) rfl (Nat.le_of_ble_eq_true rfl) (c_X7_in I J (nI 1) (nI 0) (nI 1)) ?_
  rintro _ _ ⟨rfl, ⟨rfl, h3⟩ | ⟨rfl, h3⟩⟩
  · show Ev _ _ _ _ _ 6 [some (.ref 359), some (.int (nI 1)), some (.int y)] [.int (nI 1)] (zz_SH, I, J) _
    refine Ev.if_eq (off := 13) (tgt := 19) (by decide +kernel) (by decide) (fun h6 => absurd h6 (by decide)) (fun h6 => ?_)
    refine Ev.run [(.iload_n 2, 1), (.iconst 1, 1), (.bipush 99, 2)] (pc' := 13) (L' := [some (.ref 359), some (.int (nI 1)), some (.int y)]) (S' := [.int (nI 99), .int (nI 1), .int y]) rfl (by decide +kernel) rfl ?_
    refine Ev.callS0 mX7_in [.int y, .int (nI 1), .int (nI 99)] [] _ rfl lk_RX7_79 (by decide +kernel) rfl (Nat.le_of_ble_eq_true rfl) (c_X7_in I J y (nI 1) (nI 99)) ?_
    rintro _ _ ⟨rfl, ⟨rfl, h13⟩ | ⟨rfl, h13⟩⟩
    · show Ev _ _ _ _ _ 16 [some (.ref 359), some (.int (nI 1)), some (.int y)] [.int (nI 1)] (zz_SH, I, J) _
      refine Ev.if_ne (off := 6) (tgt := 22) (by decide +kernel) (by decide) (fun h16 => ?_) (fun h16 => absurd h16 (by decide))
      refine Ev.run [(.aload_n 0, 1), (.getfield 40, 3), (.iload_n 1, 1)] (pc' := 27) (L' := [some (.ref 359), some (.int (nI 1)), some (.int y)]) (S' := [.int (nI 1), .ref 370]) rfl (by decide +kernel) rfl ?_
      refine Ev.iald 1 (by decide +kernel) (rfl) (rfl) (by omega) (by first | decide | omega) ?_
      dsimp only
      rw [show I 370 1 = nI s from hs]
      refine Ev.run [(.bipush 12, 2)] (pc' := 30) (L' := [some (.ref 359), some (.int (nI 1)), some (.int y)]) (S' := [.int (nI 12), .int (nI s)]) rfl (by decide +kernel) rfl ?_
      refine Ev.icmp_ne (off := 6) (tgt := 36) (by decide +kernel) (by decide) (fun h30 => ?_) (fun h30 => ?_)
      · have h30 : ¬ s = 12 := zz_bE_f (by omega) (by omega) h30
        exfalso; omega
      · have h30 : s = 12 := zz_bE_t (by omega) (by omega) h30
        refine Ev.run [(.bipush (-4), 2)] (pc' := 35) (L' := [some (.ref 359), some (.int (nI 1)), some (.int y)]) (S' := [.int ((-4))]) rfl (by decide +kernel) rfl ?_
        exact Ev.iret rfl (by decide +kernel) (⟨rfl, rfl⟩)
    · exact absurd hy h13
  · exact absurd (by decide) h3

set_option maxRecDepth 100000 in
set_option maxHeartbeats 4000000 in
theorem c_X7_length_k1 {sc : Nat × (Nat → Int32)} {d : Nat} (I : Nat → Nat → Int32) (J : Nat → Nat → Int64) (s : Nat) (hs : I 370 1 = nI s) (hs2 : s ≤ 12) (y : Int32) (hy : nI 1 ≤ y ∧ y ≤ nI 99) (hf : s < 12) : EvM sc (d + 1) 0 0 mX7_length [.ref 359, .int (nI 1), .int y] (zz_SH, I, J) (zz_is (.int (nI (s + 1))) (zz_SH, zz_up (zz_up I 371 (12 * 1 + s) y) 370 1 (nI (s + 1)), J)) := by
  refine EvM.of (by decide) rfl (Nat.le_of_ble_eq_true rfl) ?_
  show Ev _ _ _ _ _ 0 [some (.ref 359), some (.int (nI 1)), some (.int y)] [] (zz_SH, I, J) _
  refine Ev.run [(.iload_n 1, 1), (.iconst 0, 1), (.iconst 1, 1)] (pc' := 3) (L' := [some (.ref 359), some (.int (nI 1)), some (.int y)]) (S' := [.int (nI 1), .int (nI 0), .int (nI 1)]) rfl (by decide +kernel) rfl ?_
  refine Ev.callS0 mX7_in [.int (nI 1), .int (nI 0), .int (nI 1)] [] _ rfl lk_RX7_79 (by decide +kernel) rfl (Nat.le_of_ble_eq_true rfl) (c_X7_in I J (nI 1) (nI 0) (nI 1)) ?_
  rintro _ _ ⟨rfl, ⟨rfl, h3⟩ | ⟨rfl, h3⟩⟩
  · show Ev _ _ _ _ _ 6 [some (.ref 359), some (.int (nI 1)), some (.int y)] [.int (nI 1)] (zz_SH, I, J) _
    refine Ev.if_eq (off := 13) (tgt := 19) (by decide +kernel) (by decide) (fun h6 => absurd h6 (by decide)) (fun h6 => ?_)
    refine Ev.run [(.iload_n 2, 1), (.iconst 1, 1), (.bipush 99, 2)] (pc' := 13) (L' := [some (.ref 359), some (.int (nI 1)), some (.int y)]) (S' := [.int (nI 99), .int (nI 1), .int y]) rfl (by decide +kernel) rfl ?_
    refine Ev.callS0 mX7_in [.int y, .int (nI 1), .int (nI 99)] [] _ rfl lk_RX7_79 (by decide +kernel) rfl (Nat.le_of_ble_eq_true rfl) (c_X7_in I J y (nI 1) (nI 99)) ?_
    rintro _ _ ⟨rfl, ⟨rfl, h13⟩ | ⟨rfl, h13⟩⟩
    · show Ev _ _ _ _ _ 16 [some (.ref 359), some (.int (nI 1)), some (.int y)] [.int (nI 1)] (zz_SH, I, J) _
      refine Ev.if_ne (off := 6) (tgt := 22) (by decide +kernel) (by decide) (fun h16 => ?_) (fun h16 => absurd h16 (by decide))
      refine Ev.run [(.aload_n 0, 1), (.getfield 40, 3), (.iload_n 1, 1)] (pc' := 27) (L' := [some (.ref 359), some (.int (nI 1)), some (.int y)]) (S' := [.int (nI 1), .ref 370]) rfl (by decide +kernel) rfl ?_
      refine Ev.iald 1 (by decide +kernel) (rfl) (rfl) (by omega) (by first | decide | omega) ?_
      dsimp only
      rw [show I 370 1 = nI s from hs]
      refine Ev.run [(.bipush 12, 2)] (pc' := 30) (L' := [some (.ref 359), some (.int (nI 1)), some (.int y)]) (S' := [.int (nI 12), .int (nI s)]) rfl (by decide +kernel) rfl ?_
      refine Ev.icmp_ne (off := 6) (tgt := 36) (by decide +kernel) (by decide) (fun h30 => ?_) (fun h30 => ?_)
      · have h30 : ¬ s = 12 := zz_bE_f (by omega) (by omega) h30
        refine Ev.run [(.aload_n 0, 1), (.getfield 43, 3), (.bipush 12, 2), (.iload_n 1, 1), (.imul, 1)] (pc' := 44) (L' := [some (.ref 359), some (.int (nI 1)), some (.int y)]) (S' := [.int (nI 12 * nI 1), .ref 371]) rfl (by decide +kernel) rfl ?_
        rw [pk_mul 12 1]
        refine Ev.run [(.aload_n 0, 1), (.getfield 40, 3), (.iload_n 1, 1)] (pc' := 49) (L' := [some (.ref 359), some (.int (nI 1)), some (.int y)]) (S' := [.int (nI 1), .ref 370, .int (nI (12 * 1)), .ref 371]) rfl (by decide +kernel) rfl ?_
        refine Ev.iald 1 (by decide +kernel) (rfl) (rfl) (by omega) (by first | decide | omega) ?_
        dsimp only
        rw [show I 370 1 = nI s from hs]
        refine Ev.run [(.iadd, 1)] (pc' := 51) (L' := [some (.ref 359), some (.int (nI 1)), some (.int y)]) (S' := [.int (nI (12 * 1) + nI s), .ref 371]) rfl (by decide +kernel) rfl ?_
        rw [nI_add (12 * 1) s]
        refine Ev.run [(.iload_n 2, 1)] (pc' := 52) (L' := [some (.ref 359), some (.int (nI 1)), some (.int y)]) (S' := [.int y, .int (nI ((12 * 1) + s)), .ref 371]) rfl (by decide +kernel) rfl ?_
        refine Ev.iast ((12 * 1) + s) (by decide +kernel) (rfl) (rfl) (by omega) (by first | decide | omega) ?_
        dsimp only
        refine Ev.run [(.aload_n 0, 1), (.getfield 40, 3), (.iload_n 1, 1), (.dup2, 1)] (pc' := 59) (L' := [some (.ref 359), some (.int (nI 1)), some (.int y)]) (S' := [.int (nI 1), .ref 370, .int (nI 1), .ref 370]) rfl (by decide +kernel) rfl ?_
        refine Ev.iald 1 (by decide +kernel) (rfl) (rfl) (by omega) (by first | decide | omega) ?_
        dsimp only
        rw [show (zz_up I 371 (12 * 1 + s) y) 370 1 = nI s from by rw [zz_up_ne (by decide)]; exact hs]
        refine Ev.run [(.iconst 1, 1), (.iadd, 1)] (pc' := 62) (L' := [some (.ref 359), some (.int (nI 1)), some (.int y)]) (S' := [.int (nI s + nI 1), .int (nI 1), .ref 370]) rfl (by decide +kernel) rfl ?_
        rw [nI_add s 1]
        refine Ev.iast 1 (by decide +kernel) (rfl) (rfl) (by omega) (by first | decide | omega) ?_
        dsimp only
        refine Ev.run [(.aload_n 0, 1), (.getfield 40, 3), (.iload_n 1, 1)] (pc' := 68) (L' := [some (.ref 359), some (.int (nI 1)), some (.int y)]) (S' := [.int (nI 1), .ref 370]) rfl (by decide +kernel) rfl ?_
        refine Ev.iald 1 (by decide +kernel) (rfl) (rfl) (by omega) (by first | decide | omega) ?_
        dsimp only
        rw [show (zz_up (zz_up I 371 (12 * 1 + s) y) 370 1 (nI (s + 1))) 370 1 = nI (s + 1) from by rw [zz_up_eq, zz_ups]]
        exact Ev.iret rfl (by decide +kernel) (⟨rfl, rfl⟩)
      · have h30 : s = 12 := zz_bE_t (by omega) (by omega) h30
        exfalso; omega
    · exact absurd hy h13
  · exact absurd (by decide) h3

set_option maxRecDepth 100000 in
set_option maxHeartbeats 4000000 in
theorem c_X7_lengths {sc : Nat × (Nat → Int32)} {d : Nat} (I : Nat → Nat → Int32) (J : Nat → Nat → Int64) (a b : Nat) (ha : I 370 0 = nI a) (hb : I 370 1 = nI b) : EvM sc (d) 0 0 mX7_lengths [.ref 359] (zz_SH, I, J) (zz_is (.int (nI (a + b))) (zz_SH, zz_up (zz_up I 370 0 (nI 0)) 370 1 (nI 0), J)) := by
  refine EvM.of (by decide) rfl (Nat.le_of_ble_eq_true rfl) ?_
  show Ev _ _ _ _ _ 0 [some (.ref 359), none] [] (zz_SH, I, J) _
  refine Ev.run [(.aload_n 0, 1), (.getfield 40, 3), (.iconst 0, 1)] (pc' := 5) (L' := [some (.ref 359), none]) (S' := [.int (nI 0), .ref 370]) rfl (by decide +kernel) rfl ?_
  refine Ev.iald 0 (by decide +kernel) (rfl) (rfl) (by omega) (by first | decide | omega) ?_
  dsimp only
  rw [show I 370 0 = nI a from ha]
  refine Ev.run [(.aload_n 0, 1), (.getfield 40, 3), (.iconst 1, 1)] (pc' := 11) (L' := [some (.ref 359), none]) (S' := [.int (nI 1), .ref 370, .int (nI a)]) rfl (by decide +kernel) rfl ?_
  refine Ev.iald 1 (by decide +kernel) (rfl) (rfl) (by omega) (by first | decide | omega) ?_
  dsimp only
  rw [show I 370 1 = nI b from hb]
  refine Ev.run [(.iadd, 1)] (pc' := 13) (L' := [some (.ref 359), none]) (S' := [.int (nI a + nI b)]) rfl (by decide +kernel) rfl ?_
  rw [nI_add a b]
  refine Ev.run [(.istore_n 1, 1), (.aload_n 0, 1), (.getfield 40, 3), (.iconst 0, 1), (.iconst 0, 1)] (pc' := 20) (L' := [some (.ref 359), some (.int (nI (a + b)))]) (S' := [.int (nI 0), .int (nI 0), .ref 370]) rfl (by decide +kernel) rfl ?_
  refine Ev.iast 0 (by decide +kernel) (rfl) (rfl) (by omega) (by first | decide | omega) ?_
  dsimp only
  refine Ev.run [(.aload_n 0, 1), (.getfield 40, 3), (.iconst 1, 1), (.iconst 0, 1)] (pc' := 27) (L' := [some (.ref 359), some (.int (nI (a + b)))]) (S' := [.int (nI 0), .int (nI 1), .ref 370]) rfl (by decide +kernel) rfl ?_
  refine Ev.iast 1 (by decide +kernel) (rfl) (rfl) (by omega) (by first | decide | omega) ?_
  dsimp only
  refine Ev.run [(.iload_n 1, 1)] (pc' := 29) (L' := [some (.ref 359), some (.int (nI (a + b)))]) (S' := [.int (nI (a + b))]) rfl (by decide +kernel) rfl ?_
  exact Ev.iret rfl (by decide +kernel) (⟨rfl, rfl⟩)

set_option maxRecDepth 100000 in
set_option maxHeartbeats 4000000 in
theorem c_X7_told_r {sc : Nat × (Nat → Int32)} {d : Nat} (I : Nat → Nat → Int32) (J : Nat → Nat → Int64) (A : zA) (hV : MV (zVm I) A) (hW : WF A) (b : Nat) (hb : b < 5) : EvM sc (d + 1) 0 0 mX7_told [.ref 359, .int (nI (10 + b))] (zz_SH, I, J) (zz_is (.int (nI (rt A b))) (zz_SH, I, J)) := by
  have w1 := hW.1.1
  have w2 := hW.1.2.1
  refine EvM.of (by decide) rfl (Nat.le_of_ble_eq_true rfl) ?_
  show Ev _ _ _ _ _ 0 [some (.ref 359), some (.int (nI (10 + b)))] [] (zz_SH, I, J) _
  refine Ev.run [(.iload_n 1, 1), (.bipush 10, 2), (.bipush 14, 2)] (pc' := 5) (L' := [some (.ref 359), some (.int (nI (10 + b)))]) (S' := [.int (nI 14), .int (nI 10), .int (nI (10 + b))]) rfl (by decide +kernel) rfl ?_
  refine Ev.callS0 mX7_in [.int (nI (10 + b)), .int (nI 10), .int (nI 14)] [] _ rfl lk_RX7_79 (by decide +kernel) rfl (Nat.le_of_ble_eq_true rfl) (c_X7_in I J (nI (10 + b)) (nI 10) (nI 14)) ?_
  rintro _ _ ⟨rfl, ⟨rfl, h5⟩ | ⟨rfl, h5⟩⟩
  · show Ev _ _ _ _ _ 8 [some (.ref 359), some (.int (nI (10 + b)))] [.int (nI 1)] (zz_SH, I, J) _
    refine Ev.if_eq (off := 13) (tgt := 21) (by decide +kernel) (by decide) (fun h8 => absurd h8 (by decide)) (fun h8 => ?_)
    refine Ev.run [(.aload_n 0, 1), (.getfield 34, 3), (.iload_n 1, 1), (.bipush 10, 2), (.isub, 1)] (pc' := 19) (L' := [some (.ref 359), some (.int (nI (10 + b)))]) (S' := [.int (nI (10 + b) - nI 10), .ref 368]) rfl (by decide +kernel) rfl ?_
    rw [show nI (10 + b) - nI 10 = nI b from zz_sub (by omega)]
    refine Ev.iald b (by decide +kernel) (rfl) (rfl) (by omega) (by first | decide | omega) ?_
    dsimp only
    rw [show I 368 b = nI (rt A b) from hV.2.2.2.1 b hb]
    exact Ev.iret rfl (by decide +kernel) (⟨rfl, rfl⟩)
  · exact absurd ((zz_rng (a := 10) (b := 14) (x := 10 + b) (by omega) (by omega) (by omega)).mpr (by omega)) h5

set_option maxRecDepth 100000 in
set_option maxHeartbeats 4000000 in
theorem c_X7_told_m {sc : Nat × (Nat → Int32)} {d : Nat} (I : Nat → Nat → Int32) (J : Nat → Nat → Int64) (A : zA) (hV : MV (zVm I) A) (hW : WF A) (w : Nat) (hw : w < 16) : EvM sc (d + 1) 0 0 mX7_told [.ref 359, .int (nI (20 + w))] (zz_SH, I, J) (zz_is (.int (ob (mu A w))) (zz_SH, I, J)) := by
  have w1 := hW.1.1
  have w2 := hW.1.2.1
  refine EvM.of (by decide) rfl (Nat.le_of_ble_eq_true rfl) ?_
  show Ev _ _ _ _ _ 0 [some (.ref 359), some (.int (nI (20 + w)))] [] (zz_SH, I, J) _
  refine Ev.run [(.iload_n 1, 1), (.bipush 10, 2), (.bipush 14, 2)] (pc' := 5) (L' := [some (.ref 359), some (.int (nI (20 + w)))]) (S' := [.int (nI 14), .int (nI 10), .int (nI (20 + w))]) rfl (by decide +kernel) rfl ?_
  refine Ev.callS0 mX7_in [.int (nI (20 + w)), .int (nI 10), .int (nI 14)] [] _ rfl lk_RX7_79 (by decide +kernel) rfl (Nat.le_of_ble_eq_true rfl) (c_X7_in I J (nI (20 + w)) (nI 10) (nI 14)) ?_
  rintro _ _ ⟨rfl, ⟨rfl, h5⟩ | ⟨rfl, h5⟩⟩
  · exact absurd h5 (fun q => absurd ((zz_rng (a := 10) (b := 14) (x := 20 + w) (by omega) (by omega) (by omega)).mp q) (by omega))
  · show Ev _ _ _ _ _ 8 [some (.ref 359), some (.int (nI (20 + w)))] [.int (nI 0)] (zz_SH, I, J) _
    refine Ev.if_eq (off := 13) (tgt := 21) (by decide +kernel) (by decide) (fun h8 => ?_) (fun h8 => absurd h8 (by decide))
    refine Ev.run [(.iload_n 1, 1), (.bipush 20, 2), (.bipush 35, 2)] (pc' := 26) (L' := [some (.ref 359), some (.int (nI (20 + w)))]) (S' := [.int (nI 35), .int (nI 20), .int (nI (20 + w))]) rfl (by decide +kernel) rfl ?_
    refine Ev.callS0 mX7_in [.int (nI (20 + w)), .int (nI 20), .int (nI 35)] [] _ rfl lk_RX7_79 (by decide +kernel) rfl (Nat.le_of_ble_eq_true rfl) (c_X7_in I J (nI (20 + w)) (nI 20) (nI 35)) ?_
    rintro _ _ ⟨rfl, ⟨rfl, h26⟩ | ⟨rfl, h26⟩⟩
    · show Ev _ _ _ _ _ 29 [some (.ref 359), some (.int (nI (20 + w)))] [.int (nI 1)] (zz_SH, I, J) _
      refine Ev.if_eq (off := 13) (tgt := 42) (by decide +kernel) (by decide) (fun h29 => absurd h29 (by decide)) (fun h29 => ?_)
      refine Ev.run [(.aload_n 0, 1), (.getfield 37, 3), (.iload_n 1, 1), (.bipush 20, 2), (.isub, 1)] (pc' := 40) (L' := [some (.ref 359), some (.int (nI (20 + w)))]) (S' := [.int (nI (20 + w) - nI 20), .ref 369]) rfl (by decide +kernel) rfl ?_
      rw [show nI (20 + w) - nI 20 = nI w from zz_sub (by omega)]
      refine Ev.iald w (by decide +kernel) (rfl) (rfl) (by omega) (by first | decide | omega) ?_
      dsimp only
      rw [show I 369 w = ob (mu A w) from hV.2.2.2.2.1 w hw]
      exact Ev.iret rfl (by decide +kernel) (⟨rfl, rfl⟩)
    · exact absurd ((zz_rng (a := 20) (b := 35) (x := 20 + w) (by omega) (by omega) (by omega)).mpr (by omega)) h26

set_option maxRecDepth 100000 in
set_option maxHeartbeats 4000000 in
theorem c_X7_told_0 {sc : Nat × (Nat → Int32)} {d : Nat} (I : Nat → Nat → Int32) (J : Nat → Nat → Int64) (A : zA) (hV : MV (zVm I) A) (hW : WF A) (np : Nat) (hn : I 359 0 = nI np) (hnp : np ≤ 30) : EvM sc (d + 1) 0 0 mX7_told [.ref 359, .int (nI 0)] (zz_SH, I, J) (zz_is (.int (nI np)) (zz_SH, I, J)) := by
  have w1 := hW.1.1
  have w2 := hW.1.2.1
  refine EvM.of (by decide) rfl (Nat.le_of_ble_eq_true rfl) ?_
  show Ev _ _ _ _ _ 0 [some (.ref 359), some (.int (nI 0))] [] (zz_SH, I, J) _
  refine Ev.run [(.iload_n 1, 1), (.bipush 10, 2), (.bipush 14, 2)] (pc' := 5) (L' := [some (.ref 359), some (.int (nI 0))]) (S' := [.int (nI 14), .int (nI 10), .int (nI 0)]) rfl (by decide +kernel) rfl ?_
  refine Ev.callS0 mX7_in [.int (nI 0), .int (nI 10), .int (nI 14)] [] _ rfl lk_RX7_79 (by decide +kernel) rfl (Nat.le_of_ble_eq_true rfl) (c_X7_in I J (nI 0) (nI 10) (nI 14)) ?_
  rintro _ _ ⟨rfl, ⟨rfl, h5⟩ | ⟨rfl, h5⟩⟩
  · exact absurd h5 (by decide)
  · show Ev _ _ _ _ _ 8 [some (.ref 359), some (.int (nI 0))] [.int (nI 0)] (zz_SH, I, J) _
    refine Ev.if_eq (off := 13) (tgt := 21) (by decide +kernel) (by decide) (fun h8 => ?_) (fun h8 => absurd h8 (by decide))
    refine Ev.run [(.iload_n 1, 1), (.bipush 20, 2), (.bipush 35, 2)] (pc' := 26) (L' := [some (.ref 359), some (.int (nI 0))]) (S' := [.int (nI 35), .int (nI 20), .int (nI 0)]) rfl (by decide +kernel) rfl ?_
    refine Ev.callS0 mX7_in [.int (nI 0), .int (nI 20), .int (nI 35)] [] _ rfl lk_RX7_79 (by decide +kernel) rfl (Nat.le_of_ble_eq_true rfl) (c_X7_in I J (nI 0) (nI 20) (nI 35)) ?_
    rintro _ _ ⟨rfl, ⟨rfl, h26⟩ | ⟨rfl, h26⟩⟩
    · exact absurd h26 (by decide)
    · show Ev _ _ _ _ _ 29 [some (.ref 359), some (.int (nI 0))] [.int (nI 0)] (zz_SH, I, J) _
      refine Ev.if_eq (off := 13) (tgt := 42) (by decide +kernel) (by decide) (fun h29 => ?_) (fun h29 => absurd h29 (by decide))
      refine Ev.run [(.iload_n 1, 1)] (pc' := 43) (L' := [some (.ref 359), some (.int (nI 0))]) (S' := [.int (nI 0)]) rfl (by decide +kernel) rfl ?_
      refine Ev.if_ne (off := 10) (tgt := 53) (by decide +kernel) (by decide) (fun h43 => absurd h43 (by decide)) (fun h43 => ?_)
      refine Ev.run [(.aload_n 0, 1), (.getfield 86, 3)] (pc' := 50) (L' := [some (.ref 359), some (.int (nI 0))]) (S' := [.int (I 359 0)]) rfl (by decide +kernel) rfl ?_
      rw [hn]
      refine Ev.goto (off := 49) (tgt := 99) (by decide +kernel) (by decide) ?_
      exact Ev.iret rfl (by decide +kernel) (⟨rfl, rfl⟩)

set_option maxRecDepth 100000 in
set_option maxHeartbeats 4000000 in
theorem c_X7_told_1 {sc : Nat × (Nat → Int32)} {d : Nat} (I : Nat → Nat → Int32) (J : Nat → Nat → Int64) (A : zA) (hV : MV (zVm I) A) (hW : WF A) (np : Nat) (hn : I 359 0 = nI np) (hnp : np ≤ 30) : EvM sc (d + 1) 0 0 mX7_told [.ref 359, .int (nI 1)] (zz_SH, I, J) (zz_is (.int (nI (aN A))) (zz_SH, I, J)) := by
  have w1 := hW.1.1
  have w2 := hW.1.2.1
  refine EvM.of (by decide) rfl (Nat.le_of_ble_eq_true rfl) ?_
  show Ev _ _ _ _ _ 0 [some (.ref 359), some (.int (nI 1))] [] (zz_SH, I, J) _
  refine Ev.run [(.iload_n 1, 1), (.bipush 10, 2), (.bipush 14, 2)] (pc' := 5) (L' := [some (.ref 359), some (.int (nI 1))]) (S' := [.int (nI 14), .int (nI 10), .int (nI 1)]) rfl (by decide +kernel) rfl ?_
  refine Ev.callS0 mX7_in [.int (nI 1), .int (nI 10), .int (nI 14)] [] _ rfl lk_RX7_79 (by decide +kernel) rfl (Nat.le_of_ble_eq_true rfl) (c_X7_in I J (nI 1) (nI 10) (nI 14)) ?_
  rintro _ _ ⟨rfl, ⟨rfl, h5⟩ | ⟨rfl, h5⟩⟩
  · exact absurd h5 (by decide)
  · show Ev _ _ _ _ _ 8 [some (.ref 359), some (.int (nI 1))] [.int (nI 0)] (zz_SH, I, J) _
    refine Ev.if_eq (off := 13) (tgt := 21) (by decide +kernel) (by decide) (fun h8 => ?_) (fun h8 => absurd h8 (by decide))
    refine Ev.run [(.iload_n 1, 1), (.bipush 20, 2), (.bipush 35, 2)] (pc' := 26) (L' := [some (.ref 359), some (.int (nI 1))]) (S' := [.int (nI 35), .int (nI 20), .int (nI 1)]) rfl (by decide +kernel) rfl ?_
    refine Ev.callS0 mX7_in [.int (nI 1), .int (nI 20), .int (nI 35)] [] _ rfl lk_RX7_79 (by decide +kernel) rfl (Nat.le_of_ble_eq_true rfl) (c_X7_in I J (nI 1) (nI 20) (nI 35)) ?_
    rintro _ _ ⟨rfl, ⟨rfl, h26⟩ | ⟨rfl, h26⟩⟩
    · exact absurd h26 (by decide)
    · show Ev _ _ _ _ _ 29 [some (.ref 359), some (.int (nI 1))] [.int (nI 0)] (zz_SH, I, J) _
      refine Ev.if_eq (off := 13) (tgt := 42) (by decide +kernel) (by decide) (fun h29 => ?_) (fun h29 => absurd h29 (by decide))
      refine Ev.run [(.iload_n 1, 1)] (pc' := 43) (L' := [some (.ref 359), some (.int (nI 1))]) (S' := [.int (nI 1)]) rfl (by decide +kernel) rfl ?_
      refine Ev.if_ne (off := 10) (tgt := 53) (by decide +kernel) (by decide) (fun h43 => ?_) (fun h43 => absurd h43 (by decide))
      refine Ev.run [(.iload_n 1, 1), (.iconst 1, 1)] (pc' := 55) (L' := [some (.ref 359), some (.int (nI 1))]) (S' := [.int (nI 1), .int (nI 1)]) rfl (by decide +kernel) rfl ?_
      refine Ev.icmp_ne (off := 10) (tgt := 65) (by decide +kernel) (by decide) (fun h55 => absurd h55 (by decide)) (fun h55 => ?_)
      refine Ev.run [(.aload_n 0, 1), (.getfield 75, 3)] (pc' := 62) (L' := [some (.ref 359), some (.int (nI 1))]) (S' := [.int (I 359 2)]) rfl (by decide +kernel) rfl ?_
      rw [show I 359 2 = nI (aN A) from hV.1.1]
      refine Ev.goto (off := 37) (tgt := 99) (by decide +kernel) (by decide) ?_
      exact Ev.iret rfl (by decide +kernel) (⟨rfl, rfl⟩)

set_option maxRecDepth 100000 in
set_option maxHeartbeats 4000000 in
theorem c_X7_told_2 {sc : Nat × (Nat → Int32)} {d : Nat} (I : Nat → Nat → Int32) (J : Nat → Nat → Int64) (A : zA) (hV : MV (zVm I) A) (hW : WF A) (np : Nat) (hn : I 359 0 = nI np) (hnp : np ≤ 30) : EvM sc (d + 1) 0 0 mX7_told [.ref 359, .int (nI 2)] (zz_SH, I, J) (zz_is (.int (nI (aM A))) (zz_SH, I, J)) := by
  have w1 := hW.1.1
  have w2 := hW.1.2.1
  refine EvM.of (by decide) rfl (Nat.le_of_ble_eq_true rfl) ?_
  show Ev _ _ _ _ _ 0 [some (.ref 359), some (.int (nI 2))] [] (zz_SH, I, J) _
  refine Ev.run [(.iload_n 1, 1), (.bipush 10, 2), (.bipush 14, 2)] (pc' := 5) (L' := [some (.ref 359), some (.int (nI 2))]) (S' := [.int (nI 14), .int (nI 10), .int (nI 2)]) rfl (by decide +kernel) rfl ?_
  refine Ev.callS0 mX7_in [.int (nI 2), .int (nI 10), .int (nI 14)] [] _ rfl lk_RX7_79 (by decide +kernel) rfl (Nat.le_of_ble_eq_true rfl) (c_X7_in I J (nI 2) (nI 10) (nI 14)) ?_
  rintro _ _ ⟨rfl, ⟨rfl, h5⟩ | ⟨rfl, h5⟩⟩
  · exact absurd h5 (by decide)
  · show Ev _ _ _ _ _ 8 [some (.ref 359), some (.int (nI 2))] [.int (nI 0)] (zz_SH, I, J) _
    refine Ev.if_eq (off := 13) (tgt := 21) (by decide +kernel) (by decide) (fun h8 => ?_) (fun h8 => absurd h8 (by decide))
    refine Ev.run [(.iload_n 1, 1), (.bipush 20, 2), (.bipush 35, 2)] (pc' := 26) (L' := [some (.ref 359), some (.int (nI 2))]) (S' := [.int (nI 35), .int (nI 20), .int (nI 2)]) rfl (by decide +kernel) rfl ?_
    refine Ev.callS0 mX7_in [.int (nI 2), .int (nI 20), .int (nI 35)] [] _ rfl lk_RX7_79 (by decide +kernel) rfl (Nat.le_of_ble_eq_true rfl) (c_X7_in I J (nI 2) (nI 20) (nI 35)) ?_
    rintro _ _ ⟨rfl, ⟨rfl, h26⟩ | ⟨rfl, h26⟩⟩
    · exact absurd h26 (by decide)
    · show Ev _ _ _ _ _ 29 [some (.ref 359), some (.int (nI 2))] [.int (nI 0)] (zz_SH, I, J) _
      refine Ev.if_eq (off := 13) (tgt := 42) (by decide +kernel) (by decide) (fun h29 => ?_) (fun h29 => absurd h29 (by decide))
      refine Ev.run [(.iload_n 1, 1)] (pc' := 43) (L' := [some (.ref 359), some (.int (nI 2))]) (S' := [.int (nI 2)]) rfl (by decide +kernel) rfl ?_
      refine Ev.if_ne (off := 10) (tgt := 53) (by decide +kernel) (by decide) (fun h43 => ?_) (fun h43 => absurd h43 (by decide))
      refine Ev.run [(.iload_n 1, 1), (.iconst 1, 1)] (pc' := 55) (L' := [some (.ref 359), some (.int (nI 2))]) (S' := [.int (nI 1), .int (nI 2)]) rfl (by decide +kernel) rfl ?_
      refine Ev.icmp_ne (off := 10) (tgt := 65) (by decide +kernel) (by decide) (fun h55 => ?_) (fun h55 => absurd h55 (by decide))
      refine Ev.run [(.iload_n 1, 1), (.iconst 2, 1)] (pc' := 67) (L' := [some (.ref 359), some (.int (nI 2))]) (S' := [.int (nI 2), .int (nI 2)]) rfl (by decide +kernel) rfl ?_
      refine Ev.icmp_ne (off := 10) (tgt := 77) (by decide +kernel) (by decide) (fun h67 => absurd h67 (by decide)) (fun h67 => ?_)
      refine Ev.run [(.aload_n 0, 1), (.getfield 83, 3)] (pc' := 74) (L' := [some (.ref 359), some (.int (nI 2))]) (S' := [.int (I 359 8)]) rfl (by decide +kernel) rfl ?_
      rw [show I 359 8 = nI (aM A) from hV.1.2.1]
      refine Ev.goto (off := 25) (tgt := 99) (by decide +kernel) (by decide) ?_
      exact Ev.iret rfl (by decide +kernel) (⟨rfl, rfl⟩)

set_option maxRecDepth 100000 in
set_option maxHeartbeats 4000000 in
theorem c_X7_told_3 {sc : Nat × (Nat → Int32)} {d : Nat} (I : Nat → Nat → Int32) (J : Nat → Nat → Int64) (A : zA) (hV : MV (zVm I) A) (hW : WF A) (np : Nat) (hn : I 359 0 = nI np) (hnp : np ≤ 30) : EvM sc (d + 1) 0 0 mX7_told [.ref 359, .int (nI 3)] (zz_SH, I, J) (zz_is (.int (nI (aa A))) (zz_SH, I, J)) := by
  have w1 := hW.1.1
  have w2 := hW.1.2.1
  refine EvM.of (by decide) rfl (Nat.le_of_ble_eq_true rfl) ?_
  show Ev _ _ _ _ _ 0 [some (.ref 359), some (.int (nI 3))] [] (zz_SH, I, J) _
  refine Ev.run [(.iload_n 1, 1), (.bipush 10, 2), (.bipush 14, 2)] (pc' := 5) (L' := [some (.ref 359), some (.int (nI 3))]) (S' := [.int (nI 14), .int (nI 10), .int (nI 3)]) rfl (by decide +kernel) rfl ?_
  refine Ev.callS0 mX7_in [.int (nI 3), .int (nI 10), .int (nI 14)] [] _ rfl lk_RX7_79 (by decide +kernel) rfl (Nat.le_of_ble_eq_true rfl) (c_X7_in I J (nI 3) (nI 10) (nI 14)) ?_
  rintro _ _ ⟨rfl, ⟨rfl, h5⟩ | ⟨rfl, h5⟩⟩
  · exact absurd h5 (by decide)
  · show Ev _ _ _ _ _ 8 [some (.ref 359), some (.int (nI 3))] [.int (nI 0)] (zz_SH, I, J) _
    refine Ev.if_eq (off := 13) (tgt := 21) (by decide +kernel) (by decide) (fun h8 => ?_) (fun h8 => absurd h8 (by decide))
    refine Ev.run [(.iload_n 1, 1), (.bipush 20, 2), (.bipush 35, 2)] (pc' := 26) (L' := [some (.ref 359), some (.int (nI 3))]) (S' := [.int (nI 35), .int (nI 20), .int (nI 3)]) rfl (by decide +kernel) rfl ?_
    refine Ev.callS0 mX7_in [.int (nI 3), .int (nI 20), .int (nI 35)] [] _ rfl lk_RX7_79 (by decide +kernel) rfl (Nat.le_of_ble_eq_true rfl) (c_X7_in I J (nI 3) (nI 20) (nI 35)) ?_
    rintro _ _ ⟨rfl, ⟨rfl, h26⟩ | ⟨rfl, h26⟩⟩
    · exact absurd h26 (by decide)
    · show Ev _ _ _ _ _ 29 [some (.ref 359), some (.int (nI 3))] [.int (nI 0)] (zz_SH, I, J) _
      refine Ev.if_eq (off := 13) (tgt := 42) (by decide +kernel) (by decide) (fun h29 => ?_) (fun h29 => absurd h29 (by decide))
      refine Ev.run [(.iload_n 1, 1)] (pc' := 43) (L' := [some (.ref 359), some (.int (nI 3))]) (S' := [.int (nI 3)]) rfl (by decide +kernel) rfl ?_
      refine Ev.if_ne (off := 10) (tgt := 53) (by decide +kernel) (by decide) (fun h43 => ?_) (fun h43 => absurd h43 (by decide))
      refine Ev.run [(.iload_n 1, 1), (.iconst 1, 1)] (pc' := 55) (L' := [some (.ref 359), some (.int (nI 3))]) (S' := [.int (nI 1), .int (nI 3)]) rfl (by decide +kernel) rfl ?_
      refine Ev.icmp_ne (off := 10) (tgt := 65) (by decide +kernel) (by decide) (fun h55 => ?_) (fun h55 => absurd h55 (by decide))
      refine Ev.run [(.iload_n 1, 1), (.iconst 2, 1)] (pc' := 67) (L' := [some (.ref 359), some (.int (nI 3))]) (S' := [.int (nI 2), .int (nI 3)]) rfl (by decide +kernel) rfl ?_
      refine Ev.icmp_ne (off := 10) (tgt := 77) (by decide +kernel) (by decide) (fun h67 => ?_) (fun h67 => absurd h67 (by decide))
      refine Ev.run [(.iload_n 1, 1), (.iconst 3, 1), (.iconst 4, 1)] (pc' := 80) (L' := [some (.ref 359), some (.int (nI 3))]) (S' := [.int (nI 4), .int (nI 3), .int (nI 3)]) rfl (by decide +kernel) rfl ?_
      refine Ev.callS0 mX7_in [.int (nI 3), .int (nI 3), .int (nI 4)] [] _ rfl lk_RX7_79 (by decide +kernel) rfl (Nat.le_of_ble_eq_true rfl) (c_X7_in I J (nI 3) (nI 3) (nI 4)) ?_
      rintro _ _ ⟨rfl, ⟨rfl, h80⟩ | ⟨rfl, h80⟩⟩
      · show Ev _ _ _ _ _ 83 [some (.ref 359), some (.int (nI 3))] [.int (nI 1)] (zz_SH, I, J) _
        refine Ev.if_eq (off := 14) (tgt := 97) (by decide +kernel) (by decide) (fun h83 => absurd h83 (by decide)) (fun h83 => ?_)
        refine Ev.run [(.aload_n 0, 1), (.getfield 40, 3), (.iload_n 1, 1), (.iconst 3, 1), (.isub, 1)] (pc' := 93) (L' := [some (.ref 359), some (.int (nI 3))]) (S' := [.int (nI 3 - nI 3), .ref 370]) rfl (by decide +kernel) rfl ?_
        rw [show nI 3 - nI 3 = nI 0 from zz_sub (by omega)]
        refine Ev.iald 0 (by decide +kernel) (rfl) (rfl) (by omega) (by first | decide | omega) ?_
        dsimp only
        rw [show I 370 0 = nI (aa A) from hV.1.2.2.1]
        refine Ev.goto (off := 5) (tgt := 99) (by decide +kernel) (by decide) ?_
        exact Ev.iret rfl (by decide +kernel) (⟨rfl, rfl⟩)
      · exact absurd (by decide) h80

set_option maxRecDepth 100000 in
set_option maxHeartbeats 4000000 in
theorem c_X7_told_4 {sc : Nat × (Nat → Int32)} {d : Nat} (I : Nat → Nat → Int32) (J : Nat → Nat → Int64) (A : zA) (hV : MV (zVm I) A) (hW : WF A) (np : Nat) (hn : I 359 0 = nI np) (hnp : np ≤ 30) : EvM sc (d + 1) 0 0 mX7_told [.ref 359, .int (nI 4)] (zz_SH, I, J) (zz_is (.int (nI (ab A))) (zz_SH, I, J)) := by
  have w1 := hW.1.1
  have w2 := hW.1.2.1
  refine EvM.of (by decide) rfl (Nat.le_of_ble_eq_true rfl) ?_
  show Ev _ _ _ _ _ 0 [some (.ref 359), some (.int (nI 4))] [] (zz_SH, I, J) _
  refine Ev.run [(.iload_n 1, 1), (.bipush 10, 2), (.bipush 14, 2)] (pc' := 5) (L' := [some (.ref 359), some (.int (nI 4))]) (S' := [.int (nI 14), .int (nI 10), .int (nI 4)]) rfl (by decide +kernel) rfl ?_
  refine Ev.callS0 mX7_in [.int (nI 4), .int (nI 10), .int (nI 14)] [] _ rfl lk_RX7_79 (by decide +kernel) rfl (Nat.le_of_ble_eq_true rfl) (c_X7_in I J (nI 4) (nI 10) (nI 14)) ?_
  rintro _ _ ⟨rfl, ⟨rfl, h5⟩ | ⟨rfl, h5⟩⟩
  · exact absurd h5 (by decide)
  · show Ev _ _ _ _ _ 8 [some (.ref 359), some (.int (nI 4))] [.int (nI 0)] (zz_SH, I, J) _
    refine Ev.if_eq (off := 13) (tgt := 21) (by decide +kernel) (by decide) (fun h8 => ?_) (fun h8 => absurd h8 (by decide))
    refine Ev.run [(.iload_n 1, 1), (.bipush 20, 2), (.bipush 35, 2)] (pc' := 26) (L' := [some (.ref 359), some (.int (nI 4))]) (S' := [.int (nI 35), .int (nI 20), .int (nI 4)]) rfl (by decide +kernel) rfl ?_
    refine Ev.callS0 mX7_in [.int (nI 4), .int (nI 20), .int (nI 35)] [] _ rfl lk_RX7_79 (by decide +kernel) rfl (Nat.le_of_ble_eq_true rfl) (c_X7_in I J (nI 4) (nI 20) (nI 35)) ?_
    rintro _ _ ⟨rfl, ⟨rfl, h26⟩ | ⟨rfl, h26⟩⟩
    · exact absurd h26 (by decide)
    · show Ev _ _ _ _ _ 29 [some (.ref 359), some (.int (nI 4))] [.int (nI 0)] (zz_SH, I, J) _
      refine Ev.if_eq (off := 13) (tgt := 42) (by decide +kernel) (by decide) (fun h29 => ?_) (fun h29 => absurd h29 (by decide))
      refine Ev.run [(.iload_n 1, 1)] (pc' := 43) (L' := [some (.ref 359), some (.int (nI 4))]) (S' := [.int (nI 4)]) rfl (by decide +kernel) rfl ?_
      refine Ev.if_ne (off := 10) (tgt := 53) (by decide +kernel) (by decide) (fun h43 => ?_) (fun h43 => absurd h43 (by decide))
      refine Ev.run [(.iload_n 1, 1), (.iconst 1, 1)] (pc' := 55) (L' := [some (.ref 359), some (.int (nI 4))]) (S' := [.int (nI 1), .int (nI 4)]) rfl (by decide +kernel) rfl ?_
      refine Ev.icmp_ne (off := 10) (tgt := 65) (by decide +kernel) (by decide) (fun h55 => ?_) (fun h55 => absurd h55 (by decide))
      refine Ev.run [(.iload_n 1, 1), (.iconst 2, 1)] (pc' := 67) (L' := [some (.ref 359), some (.int (nI 4))]) (S' := [.int (nI 2), .int (nI 4)]) rfl (by decide +kernel) rfl ?_
      refine Ev.icmp_ne (off := 10) (tgt := 77) (by decide +kernel) (by decide) (fun h67 => ?_) (fun h67 => absurd h67 (by decide))
      refine Ev.run [(.iload_n 1, 1), (.iconst 3, 1), (.iconst 4, 1)] (pc' := 80) (L' := [some (.ref 359), some (.int (nI 4))]) (S' := [.int (nI 4), .int (nI 3), .int (nI 4)]) rfl (by decide +kernel) rfl ?_
      refine Ev.callS0 mX7_in [.int (nI 4), .int (nI 3), .int (nI 4)] [] _ rfl lk_RX7_79 (by decide +kernel) rfl (Nat.le_of_ble_eq_true rfl) (c_X7_in I J (nI 4) (nI 3) (nI 4)) ?_
      rintro _ _ ⟨rfl, ⟨rfl, h80⟩ | ⟨rfl, h80⟩⟩
      · show Ev _ _ _ _ _ 83 [some (.ref 359), some (.int (nI 4))] [.int (nI 1)] (zz_SH, I, J) _
        refine Ev.if_eq (off := 14) (tgt := 97) (by decide +kernel) (by decide) (fun h83 => absurd h83 (by decide)) (fun h83 => ?_)
        refine Ev.run [(.aload_n 0, 1), (.getfield 40, 3), (.iload_n 1, 1), (.iconst 3, 1), (.isub, 1)] (pc' := 93) (L' := [some (.ref 359), some (.int (nI 4))]) (S' := [.int (nI 4 - nI 3), .ref 370]) rfl (by decide +kernel) rfl ?_
        rw [show nI 4 - nI 3 = nI 1 from zz_sub (by omega)]
        refine Ev.iald 1 (by decide +kernel) (rfl) (rfl) (by omega) (by first | decide | omega) ?_
        dsimp only
        rw [show I 370 1 = nI (ab A) from hV.1.2.2.2]
        refine Ev.goto (off := 5) (tgt := 99) (by decide +kernel) (by decide) ?_
        exact Ev.iret rfl (by decide +kernel) (⟨rfl, rfl⟩)
      · exact absurd (by decide) h80

set_option maxRecDepth 100000 in
set_option maxHeartbeats 4000000 in
theorem c_X7_told_o {sc : Nat × (Nat → Int32)} {d : Nat} (I : Nat → Nat → Int32) (J : Nat → Nat → Int64) (x : Int32) (h1 : ¬ (nI 10 ≤ x ∧ x ≤ nI 14)) (h2 : ¬ (nI 20 ≤ x ∧ x ≤ nI 35)) (h3 : ¬ x = nI 0) (h4 : ¬ x = nI 1) (h6 : ¬ x = nI 2) (h7 : ¬ (nI 3 ≤ x ∧ x ≤ nI 4)) : EvM sc (d + 1) 0 0 mX7_told [.ref 359, .int x] (zz_SH, I, J) (zz_is (.int (-2)) (zz_SH, I, J)) := by
  refine EvM.of (by decide) rfl (Nat.le_of_ble_eq_true rfl) ?_
  show Ev _ _ _ _ _ 0 [some (.ref 359), some (.int x)] [] (zz_SH, I, J) _
  refine Ev.run [(.iload_n 1, 1), (.bipush 10, 2), (.bipush 14, 2)] (pc' := 5) (L' := [some (.ref 359), some (.int x)]) (S' := [.int (nI 14), .int (nI 10), .int x]) rfl (by decide +kernel) rfl ?_
  refine Ev.callS0 mX7_in [.int x, .int (nI 10), .int (nI 14)] [] _ rfl lk_RX7_79 (by decide +kernel) rfl (Nat.le_of_ble_eq_true rfl) (c_X7_in I J x (nI 10) (nI 14)) ?_
  rintro _ _ ⟨rfl, ⟨rfl, h5⟩ | ⟨rfl, h5⟩⟩
  · exact absurd h5 h1
  · show Ev _ _ _ _ _ 8 [some (.ref 359), some (.int x)] [.int (nI 0)] (zz_SH, I, J) _
    refine Ev.if_eq (off := 13) (tgt := 21) (by decide +kernel) (by decide) (fun h8 => ?_) (fun h8 => absurd h8 (by decide))
    refine Ev.run [(.iload_n 1, 1), (.bipush 20, 2), (.bipush 35, 2)] (pc' := 26) (L' := [some (.ref 359), some (.int x)]) (S' := [.int (nI 35), .int (nI 20), .int x]) rfl (by decide +kernel) rfl ?_
    refine Ev.callS0 mX7_in [.int x, .int (nI 20), .int (nI 35)] [] _ rfl lk_RX7_79 (by decide +kernel) rfl (Nat.le_of_ble_eq_true rfl) (c_X7_in I J x (nI 20) (nI 35)) ?_
    rintro _ _ ⟨rfl, ⟨rfl, h26⟩ | ⟨rfl, h26⟩⟩
    · exact absurd h26 h2
    · show Ev _ _ _ _ _ 29 [some (.ref 359), some (.int x)] [.int (nI 0)] (zz_SH, I, J) _
      refine Ev.if_eq (off := 13) (tgt := 42) (by decide +kernel) (by decide) (fun h29 => ?_) (fun h29 => absurd h29 (by decide))
      refine Ev.run [(.iload_n 1, 1)] (pc' := 43) (L' := [some (.ref 359), some (.int x)]) (S' := [.int x]) rfl (by decide +kernel) rfl ?_
      refine Ev.if_ne (off := 10) (tgt := 53) (by decide +kernel) (by decide) (fun h43 => ?_) (fun h43 => absurd h43 h3)
      refine Ev.run [(.iload_n 1, 1), (.iconst 1, 1)] (pc' := 55) (L' := [some (.ref 359), some (.int x)]) (S' := [.int (nI 1), .int x]) rfl (by decide +kernel) rfl ?_
      refine Ev.icmp_ne (off := 10) (tgt := 65) (by decide +kernel) (by decide) (fun h55 => ?_) (fun h55 => absurd h55 h4)
      refine Ev.run [(.iload_n 1, 1), (.iconst 2, 1)] (pc' := 67) (L' := [some (.ref 359), some (.int x)]) (S' := [.int (nI 2), .int x]) rfl (by decide +kernel) rfl ?_
      refine Ev.icmp_ne (off := 10) (tgt := 77) (by decide +kernel) (by decide) (fun h67 => ?_) (fun h67 => absurd h67 h6)
      refine Ev.run [(.iload_n 1, 1), (.iconst 3, 1), (.iconst 4, 1)] (pc' := 80) (L' := [some (.ref 359), some (.int x)]) (S' := [.int (nI 4), .int (nI 3), .int x]) rfl (by decide +kernel) rfl ?_
      refine Ev.callS0 mX7_in [.int x, .int (nI 3), .int (nI 4)] [] _ rfl lk_RX7_79 (by decide +kernel) rfl (Nat.le_of_ble_eq_true rfl) (c_X7_in I J x (nI 3) (nI 4)) ?_
      rintro _ _ ⟨rfl, ⟨rfl, h80⟩ | ⟨rfl, h80⟩⟩
      · exact absurd h80 h7
      · show Ev _ _ _ _ _ 83 [some (.ref 359), some (.int x)] [.int (nI 0)] (zz_SH, I, J) _
        refine Ev.if_eq (off := 14) (tgt := 97) (by decide +kernel) (by decide) (fun h83 => ?_) (fun h83 => absurd h83 (by decide))
        refine Ev.run [(.bipush (-2), 2)] (pc' := 99) (L' := [some (.ref 359), some (.int x)]) (S' := [.int ((-2))]) rfl (by decide +kernel) rfl ?_
        exact Ev.iret rfl (by decide +kernel) (⟨rfl, rfl⟩)

set_option maxRecDepth 100000 in
set_option maxHeartbeats 4000000 in
theorem c_X7_pair_u {sc : Nat × (Nat → Int32)} {d : Nat} (I : Nat → Nat → Int32) (J : Nat → Nat → Int64) (A : zA) (hV : MV (zVm I) A) (hW : WF A) (x y : Int32) (hx : ¬ zz_ix x (aN A)) : EvM sc (d + 2) 0 0 mX7_pair [.ref 359, .int x, .int y] (zz_SH, I, J) (zz_is (.int (-1)) (zz_SH, I, J)) := by
  have w1 := hW.1.1
  have w2 := hW.1.2.1
  refine EvM.of (by decide) rfl (Nat.le_of_ble_eq_true rfl) ?_
  show Ev _ _ _ _ _ 0 [some (.ref 359), some (.int x), some (.int y)] [] (zz_SH, I, J) _
  refine Ev.run [(.aload_n 0, 1), (.iload_n 1, 1)] (pc' := 2) (L' := [some (.ref 359), some (.int x), some (.int y)]) (S' := [.int x, .ref 359]) rfl (by decide +kernel) rfl ?_
  refine Ev.callV0 mX7_isPair [.int x] [] _ rfl lk_RX7_100 (by decide +kernel) (rfl) rfl rfl rfl (Nat.le_of_ble_eq_true rfl) (c_X7_isPair I J (aN A) x hV.1.1 (by omega)) ?_
  rintro _ _ ⟨rfl, ⟨rfl, h2⟩ | ⟨rfl, h2⟩⟩
  · exact absurd h2 hx
  · show Ev _ _ _ _ _ 5 [some (.ref 359), some (.int x), some (.int y)] [.int (nI 0)] (zz_SH, I, J) _
    refine Ev.if_ne (off := 5) (tgt := 10) (by decide +kernel) (by decide) (fun h5 => absurd h5 (by decide)) (fun h5 => ?_)
    refine Ev.run [(.iconst (-1), 1)] (pc' := 9) (L' := [some (.ref 359), some (.int x), some (.int y)]) (S' := [.int ((-1))]) rfl (by decide +kernel) rfl ?_
    exact Ev.iret rfl (by decide +kernel) (⟨rfl, rfl⟩)

set_option maxRecDepth 100000 in
set_option maxHeartbeats 4000000 in
theorem c_X7_pair_0 {sc : Nat × (Nat → Int32)} {d : Nat} (I : Nat → Nat → Int32) (J : Nat → Nat → Int64) (A : zA) (hV : MV (zVm I) A) (hW : WF A) (p : Nat) (hp : p < aN A) : EvM sc (d + 2) 0 0 mX7_pair [.ref 359, .int (nI p), .int (nI 0)] (zz_SH, I, J) (zz_is (.int (nI (fz A p))) (zz_SH, I, J)) := by
  have w1 := hW.1.1
  have w2 := hW.1.2.1
  have z1 := (hW.2.1 p hp).1
  refine EvM.of (by decide) rfl (Nat.le_of_ble_eq_true rfl) ?_
  show Ev _ _ _ _ _ 0 [some (.ref 359), some (.int (nI p)), some (.int (nI 0))] [] (zz_SH, I, J) _
  refine Ev.run [(.aload_n 0, 1), (.iload_n 1, 1)] (pc' := 2) (L' := [some (.ref 359), some (.int (nI p)), some (.int (nI 0))]) (S' := [.int (nI p), .ref 359]) rfl (by decide +kernel) rfl ?_
  refine Ev.callV0 mX7_isPair [.int (nI p)] [] _ rfl lk_RX7_100 (by decide +kernel) (rfl) rfl rfl rfl (Nat.le_of_ble_eq_true rfl) (c_X7_isPair I J (aN A) (nI p) hV.1.1 (by omega)) ?_
  rintro _ _ ⟨rfl, ⟨rfl, h2⟩ | ⟨rfl, h2⟩⟩
  · show Ev _ _ _ _ _ 5 [some (.ref 359), some (.int (nI p)), some (.int (nI 0))] [.int (nI 1)] (zz_SH, I, J) _
    refine Ev.if_ne (off := 5) (tgt := 10) (by decide +kernel) (by decide) (fun h5 => ?_) (fun h5 => absurd h5 (by decide))
    refine Ev.run [(.iload_n 2, 1), (.iconst 0, 1), (.iconst 2, 1)] (pc' := 13) (L' := [some (.ref 359), some (.int (nI p)), some (.int (nI 0))]) (S' := [.int (nI 2), .int (nI 0), .int (nI 0)]) rfl (by decide +kernel) rfl ?_
    refine Ev.callS0 mX7_in [.int (nI 0), .int (nI 0), .int (nI 2)] [] _ rfl lk_RX7_79 (by decide +kernel) rfl (Nat.le_of_ble_eq_true rfl) (c_X7_in I J (nI 0) (nI 0) (nI 2)) ?_
    rintro _ _ ⟨rfl, ⟨rfl, h13⟩ | ⟨rfl, h13⟩⟩
    · show Ev _ _ _ _ _ 16 [some (.ref 359), some (.int (nI p)), some (.int (nI 0))] [.int (nI 1)] (zz_SH, I, J) _
      refine Ev.if_eq (off := 37) (tgt := 53) (by decide +kernel) (by decide) (fun h16 => absurd h16 (by decide)) (fun h16 => ?_)
      refine Ev.run [(.iload_n 2, 1)] (pc' := 20) (L' := [some (.ref 359), some (.int (nI p)), some (.int (nI 0))]) (S' := [.int (nI 0)]) rfl (by decide +kernel) rfl ?_
      refine Ev.if_ne (off := 12) (tgt := 32) (by decide +kernel) (by decide) (fun h20 => absurd h20 (by decide)) (fun h20 => ?_)
      refine Ev.run [(.aload_n 0, 1), (.getfield 16, 3), (.iload_n 1, 1)] (pc' := 28) (L' := [some (.ref 359), some (.int (nI p)), some (.int (nI 0))]) (S' := [.int (nI p), .ref 362]) rfl (by decide +kernel) rfl ?_
      refine Ev.iald p (by decide +kernel) (rfl) (rfl) (by omega) (by first | decide | omega) ?_
      dsimp only
      rw [show I 362 p = nI (fz A p) from (hV.2.1 p hp).2.1]
      refine Ev.goto (off := 23) (tgt := 52) (by decide +kernel) (by decide) ?_
      exact Ev.iret rfl (by decide +kernel) (⟨rfl, rfl⟩)
    · exact absurd (by decide) h13
  · exact absurd ⟨p, hp, rfl⟩ h2

set_option maxRecDepth 100000 in
set_option maxHeartbeats 4000000 in
theorem c_X7_pair_1 {sc : Nat × (Nat → Int32)} {d : Nat} (I : Nat → Nat → Int32) (J : Nat → Nat → Int64) (A : zA) (hV : MV (zVm I) A) (hW : WF A) (p : Nat) (hp : p < aN A) : EvM sc (d + 2) 0 0 mX7_pair [.ref 359, .int (nI p), .int (nI 1)] (zz_SH, I, J) (zz_is (.int (nI (gz A p))) (zz_SH, I, J)) := by
  have w1 := hW.1.1
  have w2 := hW.1.2.1
  have z1 := (hW.2.1 p hp).1
  refine EvM.of (by decide) rfl (Nat.le_of_ble_eq_true rfl) ?_
  show Ev _ _ _ _ _ 0 [some (.ref 359), some (.int (nI p)), some (.int (nI 1))] [] (zz_SH, I, J) _
  refine Ev.run [(.aload_n 0, 1), (.iload_n 1, 1)] (pc' := 2) (L' := [some (.ref 359), some (.int (nI p)), some (.int (nI 1))]) (S' := [.int (nI p), .ref 359]) rfl (by decide +kernel) rfl ?_
  refine Ev.callV0 mX7_isPair [.int (nI p)] [] _ rfl lk_RX7_100 (by decide +kernel) (rfl) rfl rfl rfl (Nat.le_of_ble_eq_true rfl) (c_X7_isPair I J (aN A) (nI p) hV.1.1 (by omega)) ?_
  rintro _ _ ⟨rfl, ⟨rfl, h2⟩ | ⟨rfl, h2⟩⟩
  · show Ev _ _ _ _ _ 5 [some (.ref 359), some (.int (nI p)), some (.int (nI 1))] [.int (nI 1)] (zz_SH, I, J) _
    refine Ev.if_ne (off := 5) (tgt := 10) (by decide +kernel) (by decide) (fun h5 => ?_) (fun h5 => absurd h5 (by decide))
    refine Ev.run [(.iload_n 2, 1), (.iconst 0, 1), (.iconst 2, 1)] (pc' := 13) (L' := [some (.ref 359), some (.int (nI p)), some (.int (nI 1))]) (S' := [.int (nI 2), .int (nI 0), .int (nI 1)]) rfl (by decide +kernel) rfl ?_
    refine Ev.callS0 mX7_in [.int (nI 1), .int (nI 0), .int (nI 2)] [] _ rfl lk_RX7_79 (by decide +kernel) rfl (Nat.le_of_ble_eq_true rfl) (c_X7_in I J (nI 1) (nI 0) (nI 2)) ?_
    rintro _ _ ⟨rfl, ⟨rfl, h13⟩ | ⟨rfl, h13⟩⟩
    · show Ev _ _ _ _ _ 16 [some (.ref 359), some (.int (nI p)), some (.int (nI 1))] [.int (nI 1)] (zz_SH, I, J) _
      refine Ev.if_eq (off := 37) (tgt := 53) (by decide +kernel) (by decide) (fun h16 => absurd h16 (by decide)) (fun h16 => ?_)
      refine Ev.run [(.iload_n 2, 1)] (pc' := 20) (L' := [some (.ref 359), some (.int (nI p)), some (.int (nI 1))]) (S' := [.int (nI 1)]) rfl (by decide +kernel) rfl ?_
      refine Ev.if_ne (off := 12) (tgt := 32) (by decide +kernel) (by decide) (fun h20 => ?_) (fun h20 => absurd h20 (by decide))
      refine Ev.run [(.iload_n 2, 1), (.iconst 1, 1)] (pc' := 34) (L' := [some (.ref 359), some (.int (nI p)), some (.int (nI 1))]) (S' := [.int (nI 1), .int (nI 1)]) rfl (by decide +kernel) rfl ?_
      refine Ev.icmp_ne (off := 12) (tgt := 46) (by decide +kernel) (by decide) (fun h34 => absurd h34 (by decide)) (fun h34 => ?_)
      refine Ev.run [(.aload_n 0, 1), (.getfield 19, 3), (.iload_n 1, 1)] (pc' := 42) (L' := [some (.ref 359), some (.int (nI p)), some (.int (nI 1))]) (S' := [.int (nI p), .ref 363]) rfl (by decide +kernel) rfl ?_
      refine Ev.iald p (by decide +kernel) (rfl) (rfl) (by omega) (by first | decide | omega) ?_
      dsimp only
      rw [show I 363 p = nI (gz A p) from (hV.2.1 p hp).2.2.1]
      refine Ev.goto (off := 9) (tgt := 52) (by decide +kernel) (by decide) ?_
      exact Ev.iret rfl (by decide +kernel) (⟨rfl, rfl⟩)
    · exact absurd (by decide) h13
  · exact absurd ⟨p, hp, rfl⟩ h2

set_option maxRecDepth 100000 in
set_option maxHeartbeats 4000000 in
theorem c_X7_pair_2 {sc : Nat × (Nat → Int32)} {d : Nat} (I : Nat → Nat → Int32) (J : Nat → Nat → Int64) (A : zA) (hV : MV (zVm I) A) (hW : WF A) (p : Nat) (hp : p < aN A) : EvM sc (d + 2) 0 0 mX7_pair [.ref 359, .int (nI p), .int (nI 2)] (zz_SH, I, J) (zz_is (.int (ob (aB A p))) (zz_SH, I, J)) := by
  have w1 := hW.1.1
  have w2 := hW.1.2.1
  have z1 := (hW.2.1 p hp).1
  refine EvM.of (by decide) rfl (Nat.le_of_ble_eq_true rfl) ?_
  show Ev _ _ _ _ _ 0 [some (.ref 359), some (.int (nI p)), some (.int (nI 2))] [] (zz_SH, I, J) _
  refine Ev.run [(.aload_n 0, 1), (.iload_n 1, 1)] (pc' := 2) (L' := [some (.ref 359), some (.int (nI p)), some (.int (nI 2))]) (S' := [.int (nI p), .ref 359]) rfl (by decide +kernel) rfl ?_
  refine Ev.callV0 mX7_isPair [.int (nI p)] [] _ rfl lk_RX7_100 (by decide +kernel) (rfl) rfl rfl rfl (Nat.le_of_ble_eq_true rfl) (c_X7_isPair I J (aN A) (nI p) hV.1.1 (by omega)) ?_
  rintro _ _ ⟨rfl, ⟨rfl, h2⟩ | ⟨rfl, h2⟩⟩
  · show Ev _ _ _ _ _ 5 [some (.ref 359), some (.int (nI p)), some (.int (nI 2))] [.int (nI 1)] (zz_SH, I, J) _
    refine Ev.if_ne (off := 5) (tgt := 10) (by decide +kernel) (by decide) (fun h5 => ?_) (fun h5 => absurd h5 (by decide))
    refine Ev.run [(.iload_n 2, 1), (.iconst 0, 1), (.iconst 2, 1)] (pc' := 13) (L' := [some (.ref 359), some (.int (nI p)), some (.int (nI 2))]) (S' := [.int (nI 2), .int (nI 0), .int (nI 2)]) rfl (by decide +kernel) rfl ?_
    refine Ev.callS0 mX7_in [.int (nI 2), .int (nI 0), .int (nI 2)] [] _ rfl lk_RX7_79 (by decide +kernel) rfl (Nat.le_of_ble_eq_true rfl) (c_X7_in I J (nI 2) (nI 0) (nI 2)) ?_
    rintro _ _ ⟨rfl, ⟨rfl, h13⟩ | ⟨rfl, h13⟩⟩
    · show Ev _ _ _ _ _ 16 [some (.ref 359), some (.int (nI p)), some (.int (nI 2))] [.int (nI 1)] (zz_SH, I, J) _
      refine Ev.if_eq (off := 37) (tgt := 53) (by decide +kernel) (by decide) (fun h16 => absurd h16 (by decide)) (fun h16 => ?_)
      refine Ev.run [(.iload_n 2, 1)] (pc' := 20) (L' := [some (.ref 359), some (.int (nI p)), some (.int (nI 2))]) (S' := [.int (nI 2)]) rfl (by decide +kernel) rfl ?_
      refine Ev.if_ne (off := 12) (tgt := 32) (by decide +kernel) (by decide) (fun h20 => ?_) (fun h20 => absurd h20 (by decide))
      refine Ev.run [(.iload_n 2, 1), (.iconst 1, 1)] (pc' := 34) (L' := [some (.ref 359), some (.int (nI p)), some (.int (nI 2))]) (S' := [.int (nI 1), .int (nI 2)]) rfl (by decide +kernel) rfl ?_
      refine Ev.icmp_ne (off := 12) (tgt := 46) (by decide +kernel) (by decide) (fun h34 => ?_) (fun h34 => absurd h34 (by decide))
      refine Ev.run [(.aload_n 0, 1), (.getfield 13, 3), (.iload_n 1, 1)] (pc' := 51) (L' := [some (.ref 359), some (.int (nI p)), some (.int (nI 2))]) (S' := [.int (nI p), .ref 361]) rfl (by decide +kernel) rfl ?_
      refine Ev.iald p (by decide +kernel) (rfl) (rfl) (by omega) (by first | decide | omega) ?_
      dsimp only
      rw [show I 361 p = ob (aB A p) from (hV.2.1 p hp).1]
      exact Ev.iret rfl (by decide +kernel) (⟨rfl, rfl⟩)
    · exact absurd (by decide) h13
  · exact absurd ⟨p, hp, rfl⟩ h2

set_option maxRecDepth 100000 in
set_option maxHeartbeats 4000000 in
theorem c_X7_pair_f {sc : Nat × (Nat → Int32)} {d : Nat} (I : Nat → Nat → Int32) (J : Nat → Nat → Int64) (A : zA) (hV : MV (zVm I) A) (hW : WF A) (p : Nat) (hp : p < aN A) (j : Nat) (hj : j < fz A p) : EvM sc (d + 2) 0 0 mX7_pair [.ref 359, .int (nI p), .int (nI (100 + j))] (zz_SH, I, J) (zz_is (.int (nI (ff A p j))) (zz_SH, I, J)) := by
  have w1 := hW.1.1
  have w2 := hW.1.2.1
  have z1 := (hW.2.1 p hp).1
  refine EvM.of (by decide) rfl (Nat.le_of_ble_eq_true rfl) ?_
  show Ev _ _ _ _ _ 0 [some (.ref 359), some (.int (nI p)), some (.int (nI (100 + j)))] [] (zz_SH, I, J) _
  refine Ev.run [(.aload_n 0, 1), (.iload_n 1, 1)] (pc' := 2) (L' := [some (.ref 359), some (.int (nI p)), some (.int (nI (100 + j)))]) (S' := [.int (nI p), .ref 359]) rfl (by decide +kernel) rfl ?_
  refine Ev.callV0 mX7_isPair [.int (nI p)] [] _ rfl lk_RX7_100 (by decide +kernel) (rfl) rfl rfl rfl (Nat.le_of_ble_eq_true rfl) (c_X7_isPair I J (aN A) (nI p) hV.1.1 (by omega)) ?_
  rintro _ _ ⟨rfl, ⟨rfl, h2⟩ | ⟨rfl, h2⟩⟩
  · show Ev _ _ _ _ _ 5 [some (.ref 359), some (.int (nI p)), some (.int (nI (100 + j)))] [.int (nI 1)] (zz_SH, I, J) _
    refine Ev.if_ne (off := 5) (tgt := 10) (by decide +kernel) (by decide) (fun h5 => ?_) (fun h5 => absurd h5 (by decide))
    refine Ev.run [(.iload_n 2, 1), (.iconst 0, 1), (.iconst 2, 1)] (pc' := 13) (L' := [some (.ref 359), some (.int (nI p)), some (.int (nI (100 + j)))]) (S' := [.int (nI 2), .int (nI 0), .int (nI (100 + j))]) rfl (by decide +kernel) rfl ?_
    refine Ev.callS0 mX7_in [.int (nI (100 + j)), .int (nI 0), .int (nI 2)] [] _ rfl lk_RX7_79 (by decide +kernel) rfl (Nat.le_of_ble_eq_true rfl) (c_X7_in I J (nI (100 + j)) (nI 0) (nI 2)) ?_
    rintro _ _ ⟨rfl, ⟨rfl, h13⟩ | ⟨rfl, h13⟩⟩
    · exact absurd h13 (fun q => absurd ((zz_rng (a := 0) (b := 2) (x := 100 + j) (by omega) (by omega) (by omega)).mp q) (by omega))
    · show Ev _ _ _ _ _ 16 [some (.ref 359), some (.int (nI p)), some (.int (nI (100 + j)))] [.int (nI 0)] (zz_SH, I, J) _
      refine Ev.if_eq (off := 37) (tgt := 53) (by decide +kernel) (by decide) (fun h16 => ?_) (fun h16 => absurd h16 (by decide))
      refine Ev.run [(.iload_n 2, 1), (.bipush 100, 2), (.bipush 99, 2), (.aload_n 0, 1), (.getfield 16, 3), (.iload_n 1, 1)] (pc' := 63) (L' := [some (.ref 359), some (.int (nI p)), some (.int (nI (100 + j)))]) (S' := [.int (nI p), .ref 362, .int (nI 99), .int (nI 100), .int (nI (100 + j))]) rfl (by decide +kernel) rfl ?_
      refine Ev.iald p (by decide +kernel) (rfl) (rfl) (by omega) (by first | decide | omega) ?_
      dsimp only
      rw [show I 362 p = nI (fz A p) from (hV.2.1 p hp).2.1]
      refine Ev.run [(.iadd, 1)] (pc' := 65) (L' := [some (.ref 359), some (.int (nI p)), some (.int (nI (100 + j)))]) (S' := [.int (nI 99 + nI (fz A p)), .int (nI 100), .int (nI (100 + j))]) rfl (by decide +kernel) rfl ?_
      rw [nI_add 99 (fz A p)]
      refine Ev.callS0 mX7_in [.int (nI (100 + j)), .int (nI 100), .int (nI (99 + (fz A p)))] [] _ rfl lk_RX7_79 (by decide +kernel) rfl (Nat.le_of_ble_eq_true rfl) (c_X7_in I J (nI (100 + j)) (nI 100) (nI (99 + (fz A p)))) ?_
      rintro _ _ ⟨rfl, ⟨rfl, h65⟩ | ⟨rfl, h65⟩⟩
      · show Ev _ _ _ _ _ 68 [some (.ref 359), some (.int (nI p)), some (.int (nI (100 + j)))] [.int (nI 1)] (zz_SH, I, J) _
        refine Ev.if_eq (off := 18) (tgt := 86) (by decide +kernel) (by decide) (fun h68 => absurd h68 (by decide)) (fun h68 => ?_)
        refine Ev.run [(.aload_n 0, 1), (.getfield 22, 3), (.bipush 12, 2), (.iload_n 1, 1), (.imul, 1)] (pc' := 79) (L' := [some (.ref 359), some (.int (nI p)), some (.int (nI (100 + j)))]) (S' := [.int (nI 12 * nI p), .ref 364]) rfl (by decide +kernel) rfl ?_
        rw [pk_mul 12 p]
        refine Ev.run [(.iload_n 2, 1), (.iadd, 1)] (pc' := 81) (L' := [some (.ref 359), some (.int (nI p)), some (.int (nI (100 + j)))]) (S' := [.int (nI (12 * p) + nI (100 + j)), .ref 364]) rfl (by decide +kernel) rfl ?_
        rw [nI_add (12 * p) (100 + j)]
        refine Ev.run [(.bipush 100, 2), (.isub, 1)] (pc' := 84) (L' := [some (.ref 359), some (.int (nI p)), some (.int (nI (100 + j)))]) (S' := [.int (nI ((12 * p) + (100 + j)) - nI 100), .ref 364]) rfl (by decide +kernel) rfl ?_
        rw [show nI ((12 * p) + (100 + j)) - nI 100 = nI (12 * p + j) from zz_sub (by omega)]
        refine Ev.iald (12 * p + j) (by decide +kernel) (rfl) (rfl) (by omega) (by first | decide | omega) ?_
        dsimp only
        rw [show I 364 (12 * p + j) = nI (ff A p j) from (hV.2.1 p hp).2.2.2.1 j hj]
        exact Ev.iret rfl (by decide +kernel) (⟨rfl, rfl⟩)
      · exact absurd ((zz_rng (a := 100) (b := 99 + fz A p) (x := 100 + j) (by omega) (by omega) (by omega)).mpr (by omega)) h65
  · exact absurd ⟨p, hp, rfl⟩ h2

set_option maxRecDepth 100000 in
set_option maxHeartbeats 4000000 in
theorem c_X7_pair_g {sc : Nat × (Nat → Int32)} {d : Nat} (I : Nat → Nat → Int32) (J : Nat → Nat → Int64) (A : zA) (hV : MV (zVm I) A) (hW : WF A) (p : Nat) (hp : p < aN A) (j : Nat) (hj : j < gz A p) : EvM sc (d + 2) 0 0 mX7_pair [.ref 359, .int (nI p), .int (nI (200 + j))] (zz_SH, I, J) (zz_is (.int (nI (gg A p j))) (zz_SH, I, J)) := by
  have w1 := hW.1.1
  have w2 := hW.1.2.1
  have z1 := (hW.2.1 p hp).1
  refine EvM.of (by decide) rfl (Nat.le_of_ble_eq_true rfl) ?_
  show Ev _ _ _ _ _ 0 [some (.ref 359), some (.int (nI p)), some (.int (nI (200 + j)))] [] (zz_SH, I, J) _
  refine Ev.run [(.aload_n 0, 1), (.iload_n 1, 1)] (pc' := 2) (L' := [some (.ref 359), some (.int (nI p)), some (.int (nI (200 + j)))]) (S' := [.int (nI p), .ref 359]) rfl (by decide +kernel) rfl ?_
  refine Ev.callV0 mX7_isPair [.int (nI p)] [] _ rfl lk_RX7_100 (by decide +kernel) (rfl) rfl rfl rfl (Nat.le_of_ble_eq_true rfl) (c_X7_isPair I J (aN A) (nI p) hV.1.1 (by omega)) ?_
  rintro _ _ ⟨rfl, ⟨rfl, h2⟩ | ⟨rfl, h2⟩⟩
  · show Ev _ _ _ _ _ 5 [some (.ref 359), some (.int (nI p)), some (.int (nI (200 + j)))] [.int (nI 1)] (zz_SH, I, J) _
    refine Ev.if_ne (off := 5) (tgt := 10) (by decide +kernel) (by decide) (fun h5 => ?_) (fun h5 => absurd h5 (by decide))
    refine Ev.run [(.iload_n 2, 1), (.iconst 0, 1), (.iconst 2, 1)] (pc' := 13) (L' := [some (.ref 359), some (.int (nI p)), some (.int (nI (200 + j)))]) (S' := [.int (nI 2), .int (nI 0), .int (nI (200 + j))]) rfl (by decide +kernel) rfl ?_
    refine Ev.callS0 mX7_in [.int (nI (200 + j)), .int (nI 0), .int (nI 2)] [] _ rfl lk_RX7_79 (by decide +kernel) rfl (Nat.le_of_ble_eq_true rfl) (c_X7_in I J (nI (200 + j)) (nI 0) (nI 2)) ?_
    rintro _ _ ⟨rfl, ⟨rfl, h13⟩ | ⟨rfl, h13⟩⟩
    · exact absurd h13 (fun q => absurd ((zz_rng (a := 0) (b := 2) (x := 200 + j) (by omega) (by omega) (by omega)).mp q) (by omega))
    · show Ev _ _ _ _ _ 16 [some (.ref 359), some (.int (nI p)), some (.int (nI (200 + j)))] [.int (nI 0)] (zz_SH, I, J) _
      refine Ev.if_eq (off := 37) (tgt := 53) (by decide +kernel) (by decide) (fun h16 => ?_) (fun h16 => absurd h16 (by decide))
      refine Ev.run [(.iload_n 2, 1), (.bipush 100, 2), (.bipush 99, 2), (.aload_n 0, 1), (.getfield 16, 3), (.iload_n 1, 1)] (pc' := 63) (L' := [some (.ref 359), some (.int (nI p)), some (.int (nI (200 + j)))]) (S' := [.int (nI p), .ref 362, .int (nI 99), .int (nI 100), .int (nI (200 + j))]) rfl (by decide +kernel) rfl ?_
      refine Ev.iald p (by decide +kernel) (rfl) (rfl) (by omega) (by first | decide | omega) ?_
      dsimp only
      rw [show I 362 p = nI (fz A p) from (hV.2.1 p hp).2.1]
      refine Ev.run [(.iadd, 1)] (pc' := 65) (L' := [some (.ref 359), some (.int (nI p)), some (.int (nI (200 + j)))]) (S' := [.int (nI 99 + nI (fz A p)), .int (nI 100), .int (nI (200 + j))]) rfl (by decide +kernel) rfl ?_
      rw [nI_add 99 (fz A p)]
      refine Ev.callS0 mX7_in [.int (nI (200 + j)), .int (nI 100), .int (nI (99 + (fz A p)))] [] _ rfl lk_RX7_79 (by decide +kernel) rfl (Nat.le_of_ble_eq_true rfl) (c_X7_in I J (nI (200 + j)) (nI 100) (nI (99 + (fz A p)))) ?_
      rintro _ _ ⟨rfl, ⟨rfl, h65⟩ | ⟨rfl, h65⟩⟩
      · exact absurd h65 (fun q => absurd ((zz_rng (a := 100) (b := 99 + fz A p) (x := 200 + j) (by omega) (by omega) (by omega)).mp q) (by omega))
      · show Ev _ _ _ _ _ 68 [some (.ref 359), some (.int (nI p)), some (.int (nI (200 + j)))] [.int (nI 0)] (zz_SH, I, J) _
        refine Ev.if_eq (off := 18) (tgt := 86) (by decide +kernel) (by decide) (fun h68 => ?_) (fun h68 => absurd h68 (by decide))
        refine Ev.run [(.iload_n 2, 1), (.sipush 200, 3), (.sipush 199, 3), (.aload_n 0, 1), (.getfield 19, 3), (.iload_n 1, 1)] (pc' := 98) (L' := [some (.ref 359), some (.int (nI p)), some (.int (nI (200 + j)))]) (S' := [.int (nI p), .ref 363, .int (nI 199), .int (nI 200), .int (nI (200 + j))]) rfl (by decide +kernel) rfl ?_
        refine Ev.iald p (by decide +kernel) (rfl) (rfl) (by omega) (by first | decide | omega) ?_
        dsimp only
        rw [show I 363 p = nI (gz A p) from (hV.2.1 p hp).2.2.1]
        refine Ev.run [(.iadd, 1)] (pc' := 100) (L' := [some (.ref 359), some (.int (nI p)), some (.int (nI (200 + j)))]) (S' := [.int (nI 199 + nI (gz A p)), .int (nI 200), .int (nI (200 + j))]) rfl (by decide +kernel) rfl ?_
        rw [nI_add 199 (gz A p)]
        refine Ev.callS0 mX7_in [.int (nI (200 + j)), .int (nI 200), .int (nI (199 + (gz A p)))] [] _ rfl lk_RX7_79 (by decide +kernel) rfl (Nat.le_of_ble_eq_true rfl) (c_X7_in I J (nI (200 + j)) (nI 200) (nI (199 + (gz A p)))) ?_
        rintro _ _ ⟨rfl, ⟨rfl, h100⟩ | ⟨rfl, h100⟩⟩
        · show Ev _ _ _ _ _ 103 [some (.ref 359), some (.int (nI p)), some (.int (nI (200 + j)))] [.int (nI 1)] (zz_SH, I, J) _
          refine Ev.if_eq (off := 21) (tgt := 124) (by decide +kernel) (by decide) (fun h103 => absurd h103 (by decide)) (fun h103 => ?_)
          refine Ev.run [(.aload_n 0, 1), (.getfield 25, 3), (.bipush 12, 2), (.iload_n 1, 1), (.imul, 1)] (pc' := 114) (L' := [some (.ref 359), some (.int (nI p)), some (.int (nI (200 + j)))]) (S' := [.int (nI 12 * nI p), .ref 365]) rfl (by decide +kernel) rfl ?_
          rw [pk_mul 12 p]
          refine Ev.run [(.iload_n 2, 1), (.iadd, 1)] (pc' := 116) (L' := [some (.ref 359), some (.int (nI p)), some (.int (nI (200 + j)))]) (S' := [.int (nI (12 * p) + nI (200 + j)), .ref 365]) rfl (by decide +kernel) rfl ?_
          rw [nI_add (12 * p) (200 + j)]
          refine Ev.run [(.sipush 200, 3), (.isub, 1)] (pc' := 120) (L' := [some (.ref 359), some (.int (nI p)), some (.int (nI (200 + j)))]) (S' := [.int (nI ((12 * p) + (200 + j)) - nI 200), .ref 365]) rfl (by decide +kernel) rfl ?_
          rw [show nI ((12 * p) + (200 + j)) - nI 200 = nI (12 * p + j) from zz_sub (by omega)]
          refine Ev.iald (12 * p + j) (by decide +kernel) (rfl) (rfl) (by omega) (by first | decide | omega) ?_
          dsimp only
          rw [show I 365 (12 * p + j) = nI (gg A p j) from (hV.2.1 p hp).2.2.2.2 j hj]
          refine Ev.goto (off := 5) (tgt := 126) (by decide +kernel) (by decide) ?_
          exact Ev.iret rfl (by decide +kernel) (⟨rfl, rfl⟩)
        · exact absurd ((zz_rng (a := 200) (b := 199 + gz A p) (x := 200 + j) (by omega) (by omega) (by omega)).mpr (by omega)) h100
  · exact absurd ⟨p, hp, rfl⟩ h2

set_option maxRecDepth 100000 in
set_option maxHeartbeats 4000000 in
theorem c_X7_pair_o {sc : Nat × (Nat → Int32)} {d : Nat} (I : Nat → Nat → Int32) (J : Nat → Nat → Int64) (A : zA) (hV : MV (zVm I) A) (hW : WF A) (p : Nat) (hp : p < aN A) (y : Int32) (h1 : ¬ (nI 0 ≤ y ∧ y ≤ nI 2)) (h3 : ¬ (nI 100 ≤ y ∧ y ≤ nI (99 + fz A p))) (h4 : ¬ (nI 200 ≤ y ∧ y ≤ nI (199 + gz A p))) : EvM sc (d + 2) 0 0 mX7_pair [.ref 359, .int (nI p), .int y] (zz_SH, I, J) (zz_is (.int (-2)) (zz_SH, I, J)) := by
  have w1 := hW.1.1
  have w2 := hW.1.2.1
  have z1 := (hW.2.1 p hp).1
  refine EvM.of (by decide) rfl (Nat.le_of_ble_eq_true rfl) ?_
  show Ev _ _ _ _ _ 0 [some (.ref 359), some (.int (nI p)), some (.int y)] [] (zz_SH, I, J) _
  refine Ev.run [(.aload_n 0, 1), (.iload_n 1, 1)] (pc' := 2) (L' := [some (.ref 359), some (.int (nI p)), some (.int y)]) (S' := [.int (nI p), .ref 359]) rfl (by decide +kernel) rfl ?_
  refine Ev.callV0 mX7_isPair [.int (nI p)] [] _ rfl lk_RX7_100 (by decide +kernel) (rfl) rfl rfl rfl (Nat.le_of_ble_eq_true rfl) (c_X7_isPair I J (aN A) (nI p) hV.1.1 (by omega)) ?_
  rintro _ _ ⟨rfl, ⟨rfl, h2⟩ | ⟨rfl, h2⟩⟩
  · show Ev _ _ _ _ _ 5 [some (.ref 359), some (.int (nI p)), some (.int y)] [.int (nI 1)] (zz_SH, I, J) _
    refine Ev.if_ne (off := 5) (tgt := 10) (by decide +kernel) (by decide) (fun h5 => ?_) (fun h5 => absurd h5 (by decide))
    refine Ev.run [(.iload_n 2, 1), (.iconst 0, 1), (.iconst 2, 1)] (pc' := 13) (L' := [some (.ref 359), some (.int (nI p)), some (.int y)]) (S' := [.int (nI 2), .int (nI 0), .int y]) rfl (by decide +kernel) rfl ?_
    refine Ev.callS0 mX7_in [.int y, .int (nI 0), .int (nI 2)] [] _ rfl lk_RX7_79 (by decide +kernel) rfl (Nat.le_of_ble_eq_true rfl) (c_X7_in I J y (nI 0) (nI 2)) ?_
    rintro _ _ ⟨rfl, ⟨rfl, h13⟩ | ⟨rfl, h13⟩⟩
    · exact absurd h13 h1
    · show Ev _ _ _ _ _ 16 [some (.ref 359), some (.int (nI p)), some (.int y)] [.int (nI 0)] (zz_SH, I, J) _
      refine Ev.if_eq (off := 37) (tgt := 53) (by decide +kernel) (by decide) (fun h16 => ?_) (fun h16 => absurd h16 (by decide))
      refine Ev.run [(.iload_n 2, 1), (.bipush 100, 2), (.bipush 99, 2), (.aload_n 0, 1), (.getfield 16, 3), (.iload_n 1, 1)] (pc' := 63) (L' := [some (.ref 359), some (.int (nI p)), some (.int y)]) (S' := [.int (nI p), .ref 362, .int (nI 99), .int (nI 100), .int y]) rfl (by decide +kernel) rfl ?_
      refine Ev.iald p (by decide +kernel) (rfl) (rfl) (by omega) (by first | decide | omega) ?_
      dsimp only
      rw [show I 362 p = nI (fz A p) from (hV.2.1 p hp).2.1]
      refine Ev.run [(.iadd, 1)] (pc' := 65) (L' := [some (.ref 359), some (.int (nI p)), some (.int y)]) (S' := [.int (nI 99 + nI (fz A p)), .int (nI 100), .int y]) rfl (by decide +kernel) rfl ?_
      rw [nI_add 99 (fz A p)]
      refine Ev.callS0 mX7_in [.int y, .int (nI 100), .int (nI (99 + (fz A p)))] [] _ rfl lk_RX7_79 (by decide +kernel) rfl (Nat.le_of_ble_eq_true rfl) (c_X7_in I J y (nI 100) (nI (99 + (fz A p)))) ?_
      rintro _ _ ⟨rfl, ⟨rfl, h65⟩ | ⟨rfl, h65⟩⟩
      · exact absurd h65 h3
      · show Ev _ _ _ _ _ 68 [some (.ref 359), some (.int (nI p)), some (.int y)] [.int (nI 0)] (zz_SH, I, J) _
        refine Ev.if_eq (off := 18) (tgt := 86) (by decide +kernel) (by decide) (fun h68 => ?_) (fun h68 => absurd h68 (by decide))
        refine Ev.run [(.iload_n 2, 1), (.sipush 200, 3), (.sipush 199, 3), (.aload_n 0, 1), (.getfield 19, 3), (.iload_n 1, 1)] (pc' := 98) (L' := [some (.ref 359), some (.int (nI p)), some (.int y)]) (S' := [.int (nI p), .ref 363, .int (nI 199), .int (nI 200), .int y]) rfl (by decide +kernel) rfl ?_
        refine Ev.iald p (by decide +kernel) (rfl) (rfl) (by omega) (by first | decide | omega) ?_
        dsimp only
        rw [show I 363 p = nI (gz A p) from (hV.2.1 p hp).2.2.1]
        refine Ev.run [(.iadd, 1)] (pc' := 100) (L' := [some (.ref 359), some (.int (nI p)), some (.int y)]) (S' := [.int (nI 199 + nI (gz A p)), .int (nI 200), .int y]) rfl (by decide +kernel) rfl ?_
        rw [nI_add 199 (gz A p)]
        refine Ev.callS0 mX7_in [.int y, .int (nI 200), .int (nI (199 + (gz A p)))] [] _ rfl lk_RX7_79 (by decide +kernel) rfl (Nat.le_of_ble_eq_true rfl) (c_X7_in I J y (nI 200) (nI (199 + (gz A p)))) ?_
        rintro _ _ ⟨rfl, ⟨rfl, h100⟩ | ⟨rfl, h100⟩⟩
        · exact absurd h100 h4
        · show Ev _ _ _ _ _ 103 [some (.ref 359), some (.int (nI p)), some (.int y)] [.int (nI 0)] (zz_SH, I, J) _
          refine Ev.if_eq (off := 21) (tgt := 124) (by decide +kernel) (by decide) (fun h103 => ?_) (fun h103 => absurd h103 (by decide))
          refine Ev.run [(.bipush (-2), 2)] (pc' := 126) (L' := [some (.ref 359), some (.int (nI p)), some (.int y)]) (S' := [.int ((-2))]) rfl (by decide +kernel) rfl ?_
          exact Ev.iret rfl (by decide +kernel) (⟨rfl, rfl⟩)
  · exact absurd ⟨p, hp, rfl⟩ h2
