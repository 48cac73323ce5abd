/-! ===== the class: the pad, settings, lengths ===== -/
theorem zz_ixl {y : Int32} {n : Nat} (hn : n + 1 < 2 ^ 31) (h1 : ¬ y < 0) (h2 : y ≤ nI n) : zz_ix y (n + 1) := by
  refine (zz_ix_iff hn).mp ⟨Int32.not_lt.mp h1, ?_⟩
  rw [zz_sub (a := n + 1) (b := 1) (c := n) rfl]; exact h2
theorem zz_ixr {y : Int32} {n : Nat} (hn : n + 1 < 2 ^ 31) (h : zz_ix y (n + 1)) : y ≤ nI n := by
  have := ((zz_ix_iff hn).mpr h).2
  rw [zz_sub (a := n + 1) (b := 1) (c := n) rfl] at this; exact this
theorem zz_m115 {y : Int32} : ((-1) ≤ y ∧ y ≤ nI 15) ↔ (y = (-1) ∨ zz_ix y 16) := by
  have e1 : (-1 : Int32).toInt = -1 := by decide
  have e15 : (nI 15).toInt = 15 := by decide
  constructor
  · rintro ⟨h1, h2⟩
    by_cases h : y < 0
    · left
      apply Int32.toInt_inj.mp
      rw [Int32.le_iff_toInt_le, e1] at h1
      rw [Int32.lt_iff_toInt_lt, Int32.toInt_zero] at h
      rw [e1]; omega
    · right; exact zz_ixl (by decide) h h2
  · rintro (rfl | ⟨j, hj, rfl⟩)
    · decide
    · rw [Int32.le_iff_toInt_le, Int32.le_iff_toInt_le, e1, e15, nI_toInt (by omega)]; omega
theorem zz_row1 : zz_row 1 30 := ⟨rfl, rfl, by decide⟩
theorem zz_row32 : zz_row 32 12 := ⟨rfl, rfl, by decide⟩
theorem zz_row34 : zz_row 34 12 := ⟨rfl, rfl, by decide⟩
theorem zz_ixs {y : Int32} {c s : Nat} (h : zz_ix (y - nI c) s) : ∃ j, j < s ∧ y = nI (c + j) := by
  obtain ⟨j, hj, h⟩ := h
  refine ⟨j, hj, ?_⟩
  rw [Nat.add_comm, ← nI_add, ← h, Int32.sub_add_cancel]
theorem zz_nle {a b : Nat} (hb : b < 2 ^ 31) (h : a ≤ b) : nI a ≤ nI b := (nI_leI (by omega) hb).mpr h

set_option maxRecDepth 100000 in
set_option maxHeartbeats 4000000 in
theorem c_X6_say_o {sc : Nat × (Nat → Int32)} {d : Nat} (I : Nat → Nat → Int32) (J : Nat → Nat → Int64) (x : Int32) (hx : ¬ (nI 33 ≤ x ∧ x ≤ nI 126)) : EvM sc (d + 1) 0 0 mX6_say [.ref 0, .int x] (zz_SH, I, J) (zz_is (.int (-2)) (zz_SH, I, J)) := by
  refine EvM.of (by decide) rfl (Nat.le_of_ble_eq_true rfl) ?_
  show Ev _ _ _ _ _ 0 [some (.ref 0), some (.int x)] [] (zz_SH, I, J) _
  refine Ev.run [(.iload_n 1, 1), (.bipush 33, 2)] (pc' := 3) (L' := [some (.ref 0), some (.int x)]) (S' := [.int (nI 33), .int x]) rfl (by decide +kernel) rfl ?_
  refine Ev.icmp_lt (off := 9) (tgt := 12) (by decide +kernel) (by decide) (fun h3 => ?_) (fun h3 => ?_)
  · refine Ev.run [(.bipush (-2), 2)] (pc' := 14) (L' := [some (.ref 0), some (.int x)]) (S' := [.int ((-2))]) rfl (by decide +kernel) rfl ?_
    exact Ev.iret rfl (by decide +kernel) (⟨rfl, rfl⟩)
  · refine Ev.run [(.iload_n 1, 1), (.bipush 126, 2)] (pc' := 9) (L' := [some (.ref 0), some (.int x)]) (S' := [.int (nI 126), .int x]) rfl (by decide +kernel) rfl ?_
    refine Ev.icmp_le (off := 6) (tgt := 15) (by decide +kernel) (by decide) (fun h9 => ?_) (fun h9 => ?_)
    · exact absurd ⟨Int32.not_lt.mp h3, h9⟩ hx
    · refine Ev.run [(.bipush (-2), 2)] (pc' := 14) (L' := [some (.ref 0), some (.int x)]) (S' := [.int ((-2))]) rfl (by decide +kernel) rfl ?_
      exact Ev.iret rfl (by decide +kernel) (⟨rfl, rfl⟩)

set_option maxRecDepth 100000 in
set_option maxHeartbeats 4000000 in
theorem c_X6_say_f {sc : Nat × (Nat → Int32)} {d : Nat} (I : Nat → Nat → Int32) (J : Nat → Nat → Int64) (np : Nat) (hn : I 1 1 = nI np) (hnp : np ≤ 30) (x : Int32) (hx : nI 33 ≤ x ∧ x ≤ nI 126) (hf : np = 30) : EvM sc (d + 1) 0 0 mX6_say [.ref 0, .int x] (zz_SH, I, J) (zz_is (.int (-4)) (zz_SH, I, J)) := by
  refine EvM.of (by decide) rfl (Nat.le_of_ble_eq_true rfl) ?_
  show Ev _ _ _ _ _ 0 [some (.ref 0), some (.int x)] [] (zz_SH, I, J) _
  refine Ev.run [(.iload_n 1, 1), (.bipush 33, 2)] (pc' := 3) (L' := [some (.ref 0), some (.int x)]) (S' := [.int (nI 33), .int x]) rfl (by decide +kernel) rfl ?_
  refine Ev.icmp_lt (off := 9) (tgt := 12) (by decide +kernel) (by decide) (fun h3 => ?_) (fun h3 => ?_)
  · exact absurd h3 (Int32.not_lt.mpr hx.1)
  · refine Ev.run [(.iload_n 1, 1), (.bipush 126, 2)] (pc' := 9) (L' := [some (.ref 0), some (.int x)]) (S' := [.int (nI 126), .int x]) rfl (by decide +kernel) rfl ?_
    refine Ev.icmp_le (off := 6) (tgt := 15) (by decide +kernel) (by decide) (fun h9 => ?_) (fun h9 => ?_)
    · refine Ev.run [(.aload_n 0, 1), (.getfield 14, 3), (.iload_n 1, 1)] (pc' := 20) (L' := [some (.ref 0), some (.int x)]) (S' := [.int x, .ref 1]) rfl (by decide +kernel) rfl ?_
      refine Ev.callV0 mX4_add [.int x] [] _ rfl lk_RX6_54 (by decide +kernel) (rfl) rfl rfl rfl (Nat.le_of_ble_eq_true rfl) (c_X4_add_full I J 1 30 np x zz_row1 hn (by omega) (by omega)) ?_
      rintro _ _ ⟨rfl, rfl⟩
      show Ev _ _ _ _ _ 23 [some (.ref 0), some (.int x)] [.int (nI 0)] (zz_SH, I, J) _
      refine Ev.if_eq (off := 13) (tgt := 36) (by decide +kernel) (by decide) (fun h23 => ?_) (fun h23 => absurd h23 (by decide))
      refine Ev.run [(.bipush (-4), 2)] (pc' := 38) (L' := [some (.ref 0), some (.int x)]) (S' := [.int ((-4))]) rfl (by decide +kernel) rfl ?_
      exact Ev.iret rfl (by decide +kernel) (⟨rfl, rfl⟩)
    · exact absurd hx.2 h9

set_option maxRecDepth 100000 in
set_option maxHeartbeats 4000000 in
theorem c_X6_say_k {sc : Nat × (Nat → Int32)} {d : Nat} (I : Nat → Nat → Int32) (J : Nat → Nat → Int64) (np : Nat) (hn : I 1 1 = nI np) (hnp : np ≤ 30) (x : Int32) (hx : nI 33 ≤ x ∧ x ≤ nI 126) (hf : np < 30) : EvM sc (d + 1) 0 0 mX6_say [.ref 0, .int x] (zz_SH, I, J) (zz_is (.int (nI (np + 1))) (zz_SH, zz_up (zz_up I (1 + 1) np x) 1 1 (nI (np + 1)), J)) := by
  refine EvM.of (by decide) rfl (Nat.le_of_ble_eq_true rfl) ?_
  show Ev _ _ _ _ _ 0 [some (.ref 0), some (.int x)] [] (zz_SH, I, J) _
  refine Ev.run [(.iload_n 1, 1), (.bipush 33, 2)] (pc' := 3) (L' := [some (.ref 0), some (.int x)]) (S' := [.int (nI 33), .int x]) rfl (by decide +kernel) rfl ?_
  refine Ev.icmp_lt (off := 9) (tgt := 12) (by decide +kernel) (by decide) (fun h3 => ?_) (fun h3 => ?_)
  · exact absurd h3 (Int32.not_lt.mpr hx.1)
  · refine Ev.run [(.iload_n 1, 1), (.bipush 126, 2)] (pc' := 9) (L' := [some (.ref 0), some (.int x)]) (S' := [.int (nI 126), .int x]) rfl (by decide +kernel) rfl ?_
    refine Ev.icmp_le (off := 6) (tgt := 15) (by decide +kernel) (by decide) (fun h9 => ?_) (fun h9 => ?_)
    · refine Ev.run [(.aload_n 0, 1), (.getfield 14, 3), (.iload_n 1, 1)] (pc' := 20) (L' := [some (.ref 0), some (.int x)]) (S' := [.int x, .ref 1]) rfl (by decide +kernel) rfl ?_
      refine Ev.callV0 mX4_add [.int x] [] _ rfl lk_RX6_54 (by decide +kernel) (rfl) rfl rfl rfl (Nat.le_of_ble_eq_true rfl) (c_X4_add_ok I J 1 30 np x zz_row1 hn hf) ?_
      rintro _ _ ⟨rfl, rfl⟩
      show Ev _ _ _ _ _ 23 [some (.ref 0), some (.int x)] [.int (nI 1)] (zz_SH, zz_up (zz_up I (1 + 1) np x) 1 1 (nI (np + 1)), J) _
      refine Ev.if_eq (off := 13) (tgt := 36) (by decide +kernel) (by decide) (fun h23 => absurd h23 (by decide)) (fun h23 => ?_)
      refine Ev.run [(.aload_n 0, 1), (.getfield 14, 3), (.getfield 58, 3)] (pc' := 33) (L' := [some (.ref 0), some (.int x)]) (S' := [.int ((zz_up (zz_up I (1 + 1) np x) 1 1 (nI (np + 1))) 1 1)]) rfl (by decide +kernel) rfl ?_
      rw [show (zz_up (zz_up I (1 + 1) np x) 1 1 (nI (np + 1))) 1 1 = nI (np + 1) from by rw [zz_up_eq, zz_ups]]
      refine Ev.goto (off := 5) (tgt := 38) (by decide +kernel) (by decide) ?_
      exact Ev.iret rfl (by decide +kernel) (⟨rfl, rfl⟩)
    · exact absurd hx.2 h9

set_option maxRecDepth 100000 in
set_option maxHeartbeats 4000000 in
theorem c_X6_wipe {sc : Nat × (Nat → Int32)} {d : Nat} (I : Nat → Nat → Int32) (J : Nat → Nat → Int64) (np : Nat) (hn : I 1 1 = nI np) (hnp : np ≤ 30) : EvM sc (d) 0 0 mX6_wipe [.ref 0] (zz_SH, I, J) (zz_is (.int (nI np)) (zz_SH, zz_up I 1 1 (nI 0), J)) := by
  refine EvM.of (by decide) rfl (Nat.le_of_ble_eq_true rfl) ?_
  show Ev _ _ _ _ _ 0 [some (.ref 0), none] [] (zz_SH, I, J) _
  refine Ev.run [(.aload_n 0, 1), (.getfield 14, 3), (.getfield 58, 3)] (pc' := 7) (L' := [some (.ref 0), none]) (S' := [.int (I 1 1)]) rfl (by decide +kernel) rfl ?_
  rw [hn]
  refine Ev.run [(.istore_n 1, 1), (.aload_n 0, 1), (.getfield 14, 3), (.iconst 0, 1)] (pc' := 13) (L' := [some (.ref 0), some (.int (nI np))]) (S' := [.int (nI 0), .ref 1]) rfl (by decide +kernel) rfl ?_
  refine Ev.putf (idx := 58) rfl rfl rfl (by decide +kernel) (rfl) rfl ?_
  dsimp only
  refine Ev.run [(.iload_n 1, 1)] (pc' := 17) (L' := [some (.ref 0), some (.int (nI np))]) (S' := [.int (nI np)]) rfl (by decide +kernel) rfl ?_
  exact Ev.iret rfl (by decide +kernel) (⟨rfl, rfl⟩)

set_option maxRecDepth 100000 in
set_option maxHeartbeats 4000000 in
theorem c_X6_rate_o {sc : Nat × (Nat → Int32)} {d : Nat} (I : Nat → Nat → Int32) (J : Nat → Nat → Int64) (x y : Int32) (hxy : ¬ (zz_ix x 5 ∧ zz_ix y 100)) : EvM sc (d) 0 0 mX6_rate [.ref 0, .int x, .int y] (zz_SH, I, J) (zz_is (.int (-2)) (zz_SH, I, J)) := by
  refine EvM.of (by decide) rfl (Nat.le_of_ble_eq_true rfl) ?_
  show Ev _ _ _ _ _ 0 [some (.ref 0), some (.int x), some (.int y), none] [] (zz_SH, I, J) _
  refine Ev.run [(.iload_n 1, 1)] (pc' := 1) (L' := [some (.ref 0), some (.int x), some (.int y), none]) (S' := [.int x]) rfl (by decide +kernel) rfl ?_
  refine Ev.if_lt (off := 18) (tgt := 19) (by decide +kernel) (by decide) (fun h1 => ?_) (fun h1 => ?_)
  · refine Ev.run [(.bipush (-2), 2)] (pc' := 21) (L' := [some (.ref 0), some (.int x), some (.int y), none]) (S' := [.int ((-2))]) rfl (by decide +kernel) rfl ?_
    exact Ev.iret rfl (by decide +kernel) (⟨rfl, rfl⟩)
  · refine Ev.run [(.iload_n 1, 1), (.iconst 5, 1)] (pc' := 6) (L' := [some (.ref 0), some (.int x), some (.int y), none]) (S' := [.int (nI 5), .int x]) rfl (by decide +kernel) rfl ?_
    refine Ev.icmp_ge (off := 13) (tgt := 19) (by decide +kernel) (by decide) (fun h6 => ?_) (fun h6 => ?_)
    · refine Ev.run [(.bipush (-2), 2)] (pc' := 21) (L' := [some (.ref 0), some (.int x), some (.int y), none]) (S' := [.int ((-2))]) rfl (by decide +kernel) rfl ?_
      exact Ev.iret rfl (by decide +kernel) (⟨rfl, rfl⟩)
    · refine Ev.run [(.iload_n 2, 1)] (pc' := 10) (L' := [some (.ref 0), some (.int x), some (.int y), none]) (S' := [.int y]) rfl (by decide +kernel) rfl ?_
      refine Ev.if_lt (off := 9) (tgt := 19) (by decide +kernel) (by decide) (fun h10 => ?_) (fun h10 => ?_)
      · refine Ev.run [(.bipush (-2), 2)] (pc' := 21) (L' := [some (.ref 0), some (.int x), some (.int y), none]) (S' := [.int ((-2))]) rfl (by decide +kernel) rfl ?_
        exact Ev.iret rfl (by decide +kernel) (⟨rfl, rfl⟩)
      · refine Ev.run [(.iload_n 2, 1), (.bipush 99, 2)] (pc' := 16) (L' := [some (.ref 0), some (.int x), some (.int y), none]) (S' := [.int (nI 99), .int y]) rfl (by decide +kernel) rfl ?_
        refine Ev.icmp_le (off := 6) (tgt := 22) (by decide +kernel) (by decide) (fun h16 => ?_) (fun h16 => ?_)
        · exact absurd ⟨(zz_cix (by decide)).mpr ⟨h1, h6⟩, zz_ixl (by decide) h10 h16⟩ hxy
        · refine Ev.run [(.bipush (-2), 2)] (pc' := 21) (L' := [some (.ref 0), some (.int x), some (.int y), none]) (S' := [.int ((-2))]) rfl (by decide +kernel) rfl ?_
          exact Ev.iret rfl (by decide +kernel) (⟨rfl, rfl⟩)

set_option maxRecDepth 100000 in
set_option maxHeartbeats 4000000 in
theorem c_X6_rate_k {sc : Nat × (Nat → Int32)} {d : Nat} (I : Nat → Nat → Int32) (J : Nat → Nat → Int64) (A : zA) (hC : CR 3 I A) (hW : WF A) (b v : Nat) (hb : b < 5) (hv : v < 100) : EvM sc (d) 0 0 mX6_rate [.ref 0, .int (nI b), .int (nI v)] (zz_SH, I, J) (zz_is (.int (nI (rt A b))) (zz_SH, zz_up I 30 b (nI v), J)) := by
  refine EvM.of (by decide) rfl (Nat.le_of_ble_eq_true rfl) ?_
  show Ev _ _ _ _ _ 0 [some (.ref 0), some (.int (nI b)), some (.int (nI v)), none] [] (zz_SH, I, J) _
  refine Ev.run [(.iload_n 1, 1)] (pc' := 1) (L' := [some (.ref 0), some (.int (nI b)), some (.int (nI v)), none]) (S' := [.int (nI b)]) rfl (by decide +kernel) rfl ?_
  refine Ev.if_lt (off := 18) (tgt := 19) (by decide +kernel) (by decide) (fun h1 => ?_) (fun h1 => ?_)
  · have h1 : b < 0 := zz_bL_t (by omega) (by omega) h1
    exfalso; omega
  · have h1 : b ≥ 0 := zz_bL_f (by omega) (by omega) h1
    refine Ev.run [(.iload_n 1, 1), (.iconst 5, 1)] (pc' := 6) (L' := [some (.ref 0), some (.int (nI b)), some (.int (nI v)), none]) (S' := [.int (nI 5), .int (nI b)]) rfl (by decide +kernel) rfl ?_
    refine Ev.icmp_ge (off := 13) (tgt := 19) (by decide +kernel) (by decide) (fun h6 => ?_) (fun h6 => ?_)
    · have h6 : b ≥ 5 := zz_bG_t (by omega) (by omega) h6
      exfalso; omega
    · have h6 : b < 5 := zz_bG_f (by omega) (by omega) h6
      refine Ev.run [(.iload_n 2, 1)] (pc' := 10) (L' := [some (.ref 0), some (.int (nI b)), some (.int (nI v)), none]) (S' := [.int (nI v)]) rfl (by decide +kernel) rfl ?_
      refine Ev.if_lt (off := 9) (tgt := 19) (by decide +kernel) (by decide) (fun h10 => ?_) (fun h10 => ?_)
      · have h10 : v < 0 := zz_bL_t (by omega) (by omega) h10
        exfalso; omega
      · have h10 : v ≥ 0 := zz_bL_f (by omega) (by omega) h10
        refine Ev.run [(.iload_n 2, 1), (.bipush 99, 2)] (pc' := 16) (L' := [some (.ref 0), some (.int (nI b)), some (.int (nI v)), none]) (S' := [.int (nI 99), .int (nI v)]) rfl (by decide +kernel) rfl ?_
        refine Ev.icmp_le (off := 6) (tgt := 22) (by decide +kernel) (by decide) (fun h16 => ?_) (fun h16 => ?_)
        · have h16 : v ≤ 99 := zz_bG'_t (by omega) (by omega) h16
          refine Ev.run [(.aload_n 0, 1), (.getfield 21, 3), (.getfield 143, 3), (.iload_n 1, 1)] (pc' := 30) (L' := [some (.ref 0), some (.int (nI b)), some (.int (nI v)), none]) (S' := [.int (nI b), .ref 30]) rfl (by decide +kernel) rfl ?_
          refine Ev.iald b (by decide +kernel) (rfl) (rfl) (by omega) (by first | decide | omega) ?_
          dsimp only
          rw [show I 30 b = nI (rt A b) from hC.1.2.2.2.1 b hb]
          refine Ev.run [(.istore_n 3, 1), (.aload_n 0, 1), (.getfield 21, 3), (.getfield 143, 3), (.iload_n 1, 1), (.iload_n 2, 1)] (pc' := 41) (L' := [some (.ref 0), some (.int (nI b)), some (.int (nI v)), some (.int (nI (rt A b)))]) (S' := [.int (nI v), .int (nI b), .ref 30]) rfl (by decide +kernel) rfl ?_
          refine Ev.iast b (by decide +kernel) (rfl) (rfl) (by omega) (by first | decide | omega) ?_
          dsimp only
          refine Ev.run [(.iload_n 3, 1)] (pc' := 43) (L' := [some (.ref 0), some (.int (nI b)), some (.int (nI v)), some (.int (nI (rt A b)))]) (S' := [.int (nI (rt A b))]) rfl (by decide +kernel) rfl ?_
          exact Ev.iret rfl (by decide +kernel) (⟨rfl, rfl⟩)
        · have h16 : v > 99 := zz_bG'_f (by omega) (by omega) h16
          exfalso; omega

set_option maxRecDepth 100000 in
set_option maxHeartbeats 4000000 in
theorem c_X6_must_u {sc : Nat × (Nat → Int32)} {d : Nat} (I : Nat → Nat → Int32) (J : Nat → Nat → Int64) (x y : Int32) (hx : ¬ zz_ix x 16) : EvM sc (d + 1) 0 0 mX6_must [.ref 0, .int x, .int y] (zz_SH, I, J) (zz_is (.int (-1)) (zz_SH, I, J)) := by
  refine EvM.of (by decide) rfl (Nat.le_of_ble_eq_true rfl) ?_
  show Ev _ _ _ _ _ 0 [some (.ref 0), some (.int x), some (.int y), none] [] (zz_SH, I, J) _
  refine Ev.run [(.iload_n 1, 1)] (pc' := 1) (L' := [some (.ref 0), some (.int x), some (.int y), none]) (S' := [.int x]) rfl (by decide +kernel) rfl ?_
  refine Ev.callS0 mX6_isWord [.int x] [] _ rfl lk_RX6_167 (by decide +kernel) rfl (Nat.le_of_ble_eq_true rfl) (c_X6_isWord I J x) ?_
  rintro _ _ ⟨rfl, ⟨rfl, h1⟩ | ⟨rfl, h1⟩⟩
  · exact absurd h1 hx
  · show Ev _ _ _ _ _ 4 [some (.ref 0), some (.int x), some (.int y), none] [.int (nI 0)] (zz_SH, I, J) _
    refine Ev.if_ne (off := 5) (tgt := 9) (by decide +kernel) (by decide) (fun h4 => absurd h4 (by decide)) (fun h4 => ?_)
    refine Ev.run [(.iconst (-1), 1)] (pc' := 8) (L' := [some (.ref 0), some (.int x), some (.int y), none]) (S' := [.int ((-1))]) rfl (by decide +kernel) rfl ?_
    exact Ev.iret rfl (by decide +kernel) (⟨rfl, rfl⟩)

set_option maxRecDepth 100000 in
set_option maxHeartbeats 4000000 in
theorem c_X6_must_o {sc : Nat × (Nat → Int32)} {d : Nat} (I : Nat → Nat → Int32) (J : Nat → Nat → Int64) (w : Nat) (hw : w < 16) (y : Int32) (hy1 : ¬ y = (-1)) (hy : ¬ zz_ix y 16) : EvM sc (d + 1) 0 0 mX6_must [.ref 0, .int (nI w), .int y] (zz_SH, I, J) (zz_is (.int (-2)) (zz_SH, I, J)) := by
  refine EvM.of (by decide) rfl (Nat.le_of_ble_eq_true rfl) ?_
  show Ev _ _ _ _ _ 0 [some (.ref 0), some (.int (nI w)), some (.int y), none] [] (zz_SH, I, J) _
  refine Ev.run [(.iload_n 1, 1)] (pc' := 1) (L' := [some (.ref 0), some (.int (nI w)), some (.int y), none]) (S' := [.int (nI w)]) rfl (by decide +kernel) rfl ?_
  refine Ev.callS0 mX6_isWord [.int (nI w)] [] _ rfl lk_RX6_167 (by decide +kernel) rfl (Nat.le_of_ble_eq_true rfl) (c_X6_isWord I J (nI w)) ?_
  rintro _ _ ⟨rfl, ⟨rfl, h1⟩ | ⟨rfl, h1⟩⟩
  · show Ev _ _ _ _ _ 4 [some (.ref 0), some (.int (nI w)), some (.int y), none] [.int (nI 1)] (zz_SH, I, J) _
    refine Ev.if_ne (off := 5) (tgt := 9) (by decide +kernel) (by decide) (fun h4 => ?_) (fun h4 => absurd h4 (by decide))
    refine Ev.run [(.iload_n 2, 1), (.iconst (-1), 1)] (pc' := 11) (L' := [some (.ref 0), some (.int (nI w)), some (.int y), none]) (S' := [.int ((-1)), .int y]) rfl (by decide +kernel) rfl ?_
    refine Ev.icmp_eq (off := 13) (tgt := 24) (by decide +kernel) (by decide) (fun h11 => absurd h11 hy1) (fun h11 => ?_)
    refine Ev.run [(.iload_n 2, 1)] (pc' := 15) (L' := [some (.ref 0), some (.int (nI w)), some (.int y), none]) (S' := [.int y]) rfl (by decide +kernel) rfl ?_
    refine Ev.callS0 mX6_isWord [.int y] [] _ rfl lk_RX6_167 (by decide +kernel) rfl (Nat.le_of_ble_eq_true rfl) (c_X6_isWord I J y) ?_
    rintro _ _ ⟨rfl, ⟨rfl, h15⟩ | ⟨rfl, h15⟩⟩
    · exact absurd h15 hy
    · show Ev _ _ _ _ _ 18 [some (.ref 0), some (.int (nI w)), some (.int y), none] [.int (nI 0)] (zz_SH, I, J) _
      refine Ev.if_ne (off := 6) (tgt := 24) (by decide +kernel) (by decide) (fun h18 => absurd h18 (by decide)) (fun h18 => ?_)
      refine Ev.run [(.bipush (-2), 2)] (pc' := 23) (L' := [some (.ref 0), some (.int (nI w)), some (.int y), none]) (S' := [.int ((-2))]) rfl (by decide +kernel) rfl ?_
      exact Ev.iret rfl (by decide +kernel) (⟨rfl, rfl⟩)
  · exact absurd ⟨w, hw, rfl⟩ h1

set_option maxRecDepth 100000 in
set_option maxHeartbeats 4000000 in
theorem c_X6_must_n {sc : Nat × (Nat → Int32)} {d : Nat} (I : Nat → Nat → Int32) (J : Nat → Nat → Int64) (A : zA) (hC : CR 3 I A) (hW : WF A) (w : Nat) (hw : w < 16) : EvM sc (d + 1) 0 0 mX6_must [.ref 0, .int (nI w), .int ((-1))] (zz_SH, I, J) (zz_is (.int (ob (mu A w))) (zz_SH, zz_up I 31 w (-6), J)) := by
  refine EvM.of (by decide) rfl (Nat.le_of_ble_eq_true rfl) ?_
  show Ev _ _ _ _ _ 0 [some (.ref 0), some (.int (nI w)), some (.int ((-1))), none] [] (zz_SH, I, J) _
  refine Ev.run [(.iload_n 1, 1)] (pc' := 1) (L' := [some (.ref 0), some (.int (nI w)), some (.int ((-1))), none]) (S' := [.int (nI w)]) rfl (by decide +kernel) rfl ?_
  refine Ev.callS0 mX6_isWord [.int (nI w)] [] _ rfl lk_RX6_167 (by decide +kernel) rfl (Nat.le_of_ble_eq_true rfl) (c_X6_isWord I J (nI w)) ?_
  rintro _ _ ⟨rfl, ⟨rfl, h1⟩ | ⟨rfl, h1⟩⟩
  · show Ev _ _ _ _ _ 4 [some (.ref 0), some (.int (nI w)), some (.int ((-1))), none] [.int (nI 1)] (zz_SH, I, J) _
    refine Ev.if_ne (off := 5) (tgt := 9) (by decide +kernel) (by decide) (fun h4 => ?_) (fun h4 => absurd h4 (by decide))
    refine Ev.run [(.iload_n 2, 1), (.iconst (-1), 1)] (pc' := 11) (L' := [some (.ref 0), some (.int (nI w)), some (.int ((-1))), none]) (S' := [.int ((-1)), .int ((-1))]) rfl (by decide +kernel) rfl ?_
    refine Ev.icmp_eq (off := 13) (tgt := 24) (by decide +kernel) (by decide) (fun h11 => ?_) (fun h11 => absurd h11 (by decide))
    refine Ev.run [(.aload_n 0, 1), (.getfield 21, 3), (.getfield 170, 3), (.iload_n 1, 1)] (pc' := 32) (L' := [some (.ref 0), some (.int (nI w)), some (.int ((-1))), none]) (S' := [.int (nI w), .ref 31]) rfl (by decide +kernel) rfl ?_
    refine Ev.iald w (by decide +kernel) (rfl) (rfl) (by omega) (by first | decide | omega) ?_
    dsimp only
    rw [show I 31 w = ob (mu A w) from hC.1.2.2.2.2.1 w hw]
    refine Ev.run [(.istore_n 3, 1), (.aload_n 0, 1), (.getfield 21, 3), (.getfield 170, 3), (.iload_n 1, 1), (.iload_n 2, 1), (.iconst (-1), 1)] (pc' := 44) (L' := [some (.ref 0), some (.int (nI w)), some (.int ((-1))), some (.int (ob (mu A w)))]) (S' := [.int ((-1)), .int ((-1)), .int (nI w), .ref 31]) rfl (by decide +kernel) rfl ?_
    refine Ev.icmp_ne (off := 8) (tgt := 52) (by decide +kernel) (by decide) (fun h44 => absurd h44 (by decide)) (fun h44 => ?_)
    refine Ev.run [(.bipush (-6), 2)] (pc' := 49) (L' := [some (.ref 0), some (.int (nI w)), some (.int ((-1))), some (.int (ob (mu A w)))]) (S' := [.int ((-6)), .int (nI w), .ref 31]) rfl (by decide +kernel) rfl ?_
    refine Ev.goto (off := 4) (tgt := 53) (by decide +kernel) (by decide) ?_
    refine Ev.iast w (by decide +kernel) (rfl) (rfl) (by omega) (by first | decide | omega) ?_
    dsimp only
    refine Ev.run [(.iload_n 3, 1)] (pc' := 55) (L' := [some (.ref 0), some (.int (nI w)), some (.int ((-1))), some (.int (ob (mu A w)))]) (S' := [.int (ob (mu A w))]) rfl (by decide +kernel) rfl ?_
    exact Ev.iret rfl (by decide +kernel) (⟨rfl, rfl⟩)
  · exact absurd ⟨w, hw, rfl⟩ h1

set_option maxRecDepth 100000 in
set_option maxHeartbeats 4000000 in
theorem c_X6_must_s {sc : Nat × (Nat → Int32)} {d : Nat} (I : Nat → Nat → Int32) (J : Nat → Nat → Int64) (A : zA) (hC : CR 3 I A) (hW : WF A) (w a : Nat) (hw : w < 16) (ha : a < 16) : EvM sc (d + 1) 0 0 mX6_must [.ref 0, .int (nI w), .int (nI a)] (zz_SH, I, J) (zz_is (.int (ob (mu A w))) (zz_SH, zz_up I 31 w (nI a), J)) := by
  refine EvM.of (by decide) rfl (Nat.le_of_ble_eq_true rfl) ?_
  show Ev _ _ _ _ _ 0 [some (.ref 0), some (.int (nI w)), some (.int (nI a)), none] [] (zz_SH, I, J) _
  refine Ev.run [(.iload_n 1, 1)] (pc' := 1) (L' := [some (.ref 0), some (.int (nI w)), some (.int (nI a)), none]) (S' := [.int (nI w)]) rfl (by decide +kernel) rfl ?_
  refine Ev.callS0 mX6_isWord [.int (nI w)] [] _ rfl lk_RX6_167 (by decide +kernel) rfl (Nat.le_of_ble_eq_true rfl) (c_X6_isWord I J (nI w)) ?_
  rintro _ _ ⟨rfl, ⟨rfl, h1⟩ | ⟨rfl, h1⟩⟩
  · show Ev _ _ _ _ _ 4 [some (.ref 0), some (.int (nI w)), some (.int (nI a)), none] [.int (nI 1)] (zz_SH, I, J) _
    refine Ev.if_ne (off := 5) (tgt := 9) (by decide +kernel) (by decide) (fun h4 => ?_) (fun h4 => absurd h4 (by decide))
    refine Ev.run [(.iload_n 2, 1), (.iconst (-1), 1)] (pc' := 11) (L' := [some (.ref 0), some (.int (nI w)), some (.int (nI a)), none]) (S' := [.int ((-1)), .int (nI a)]) rfl (by decide +kernel) rfl ?_
    refine Ev.icmp_eq (off := 13) (tgt := 24) (by decide +kernel) (by decide) (fun h11 => absurd h11 (zz_nm a (by omega))) (fun h11 => ?_)
    refine Ev.run [(.iload_n 2, 1)] (pc' := 15) (L' := [some (.ref 0), some (.int (nI w)), some (.int (nI a)), none]) (S' := [.int (nI a)]) rfl (by decide +kernel) rfl ?_
    refine Ev.callS0 mX6_isWord [.int (nI a)] [] _ rfl lk_RX6_167 (by decide +kernel) rfl (Nat.le_of_ble_eq_true rfl) (c_X6_isWord I J (nI a)) ?_
    rintro _ _ ⟨rfl, ⟨rfl, h15⟩ | ⟨rfl, h15⟩⟩
    · show Ev _ _ _ _ _ 18 [some (.ref 0), some (.int (nI w)), some (.int (nI a)), none] [.int (nI 1)] (zz_SH, I, J) _
      refine Ev.if_ne (off := 6) (tgt := 24) (by decide +kernel) (by decide) (fun h18 => ?_) (fun h18 => absurd h18 (by decide))
      refine Ev.run [(.aload_n 0, 1), (.getfield 21, 3), (.getfield 170, 3), (.iload_n 1, 1)] (pc' := 32) (L' := [some (.ref 0), some (.int (nI w)), some (.int (nI a)), none]) (S' := [.int (nI w), .ref 31]) rfl (by decide +kernel) rfl ?_
      refine Ev.iald w (by decide +kernel) (rfl) (rfl) (by omega) (by first | decide | omega) ?_
      dsimp only
      rw [show I 31 w = ob (mu A w) from hC.1.2.2.2.2.1 w hw]
      refine Ev.run [(.istore_n 3, 1), (.aload_n 0, 1), (.getfield 21, 3), (.getfield 170, 3), (.iload_n 1, 1), (.iload_n 2, 1), (.iconst (-1), 1)] (pc' := 44) (L' := [some (.ref 0), some (.int (nI w)), some (.int (nI a)), some (.int (ob (mu A w)))]) (S' := [.int ((-1)), .int (nI a), .int (nI w), .ref 31]) rfl (by decide +kernel) rfl ?_
      refine Ev.icmp_ne (off := 8) (tgt := 52) (by decide +kernel) (by decide) (fun h44 => ?_) (fun h44 => absurd h44 (zz_nm a (by omega)))
      refine Ev.run [(.iload_n 2, 1)] (pc' := 53) (L' := [some (.ref 0), some (.int (nI w)), some (.int (nI a)), some (.int (ob (mu A w)))]) (S' := [.int (nI a), .int (nI w), .ref 31]) rfl (by decide +kernel) rfl ?_
      refine Ev.iast w (by decide +kernel) (rfl) (rfl) (by omega) (by first | decide | omega) ?_
      dsimp only
      refine Ev.run [(.iload_n 3, 1)] (pc' := 55) (L' := [some (.ref 0), some (.int (nI w)), some (.int (nI a)), some (.int (ob (mu A w)))]) (S' := [.int (ob (mu A w))]) rfl (by decide +kernel) rfl ?_
      exact Ev.iret rfl (by decide +kernel) (⟨rfl, rfl⟩)
    · exact absurd ⟨a, ha, rfl⟩ h15
  · exact absurd ⟨w, hw, rfl⟩ h1

set_option maxRecDepth 100000 in
set_option maxHeartbeats 4000000 in
theorem c_X6_pair_u {sc : Nat × (Nat → Int32)} {d : Nat} (I : Nat → Nat → Int32) (J : Nat → Nat → Int64) (A : zA) (hC : CR 3 I A) (hW : WF A) (x y : Int32) (hx : ¬ zz_ix x (aN A)) : EvM sc (d + 1) 0 0 mX6_pair [.ref 0, .int x, .int y] (zz_SH, I, J) (zz_is (.int (-1)) (zz_SH, I, J)) := by
  have w1 := hW.1.1
  have w2 := hW.1.2.1
  refine EvM.of (by decide) rfl (Nat.le_of_ble_eq_true rfl) ?_
  show Ev _ _ _ _ _ 0 [some (.ref 0), some (.int x), some (.int y), none] [] (zz_SH, I, J) _
  refine Ev.run [(.aload_n 0, 1), (.getfield 21, 3), (.iload_n 1, 1)] (pc' := 5) (L' := [some (.ref 0), some (.int x), some (.int y), none]) (S' := [.int x, .ref 3]) rfl (by decide +kernel) rfl ?_
  refine Ev.callV0 mX2_isPair [.int x] [] _ rfl lk_RX6_69 (by decide +kernel) (rfl) rfl rfl rfl (Nat.le_of_ble_eq_true rfl) (c_X2_isPair I J (aN A) x hC.1.1.1 hW.1.1) ?_
  rintro _ _ ⟨rfl, ⟨rfl, h5⟩ | ⟨rfl, h5⟩⟩
  · exact absurd h5 hx
  · show Ev _ _ _ _ _ 8 [some (.ref 0), some (.int x), some (.int y), none] [.int (nI 0)] (zz_SH, I, J) _
    refine Ev.if_ne (off := 5) (tgt := 13) (by decide +kernel) (by decide) (fun h8 => absurd h8 (by decide)) (fun h8 => ?_)
    refine Ev.run [(.iconst (-1), 1)] (pc' := 12) (L' := [some (.ref 0), some (.int x), some (.int y), none]) (S' := [.int ((-1))]) rfl (by decide +kernel) rfl ?_
    exact Ev.iret rfl (by decide +kernel) (⟨rfl, rfl⟩)

set_option maxRecDepth 100000 in
set_option maxHeartbeats 4000000 in
theorem c_X6_pair_0 {sc : Nat × (Nat → Int32)} {d : Nat} (I : Nat → Nat → Int32) (J : Nat → Nat → Int64) (A : zA) (hC : CR 3 I A) (hW : WF A) (p : Nat) (hp : p < aN A) : EvM sc (d + 1) 0 0 mX6_pair [.ref 0, .int (nI p), .int (nI 0)] (zz_SH, I, J) (zz_is (.int (nI (fz A p))) (zz_SH, I, J)) := by
  have w1 := hW.1.1
  have w2 := hW.1.2.1
  have t2 := (hW.2.1 p hp).1
  refine EvM.of (by decide) rfl (Nat.le_of_ble_eq_true rfl) ?_
  show Ev _ _ _ _ _ 0 [some (.ref 0), some (.int (nI p)), some (.int (nI 0)), none] [] (zz_SH, I, J) _
  refine Ev.run [(.aload_n 0, 1), (.getfield 21, 3), (.iload_n 1, 1)] (pc' := 5) (L' := [some (.ref 0), some (.int (nI p)), some (.int (nI 0)), none]) (S' := [.int (nI p), .ref 3]) rfl (by decide +kernel) rfl ?_
  refine Ev.callV0 mX2_isPair [.int (nI p)] [] _ rfl lk_RX6_69 (by decide +kernel) (rfl) rfl rfl rfl (Nat.le_of_ble_eq_true rfl) (c_X2_isPair I J (aN A) (nI p) hC.1.1.1 hW.1.1) ?_
  rintro _ _ ⟨rfl, ⟨rfl, h5⟩ | ⟨rfl, h5⟩⟩
  · show Ev _ _ _ _ _ 8 [some (.ref 0), some (.int (nI p)), some (.int (nI 0)), none] [.int (nI 1)] (zz_SH, I, J) _
    refine Ev.if_ne (off := 5) (tgt := 13) (by decide +kernel) (by decide) (fun h8 => ?_) (fun h8 => absurd h8 (by decide))
    refine Ev.run [(.iload_n 2, 1)] (pc' := 14) (L' := [some (.ref 0), some (.int (nI p)), some (.int (nI 0)), none]) (S' := [.int (nI 0)]) rfl (by decide +kernel) rfl ?_
    refine Ev.tblIn (dflt := 62) (lo := 0) (hi := 2) (offs := #[26, 39, 52]) (len := 26) (off := 26) (tgt := 40) (by decide +kernel) (by decide) (by decide) (by decide) (by decide) ?_
    refine Ev.run [(.aload_n 0, 1), (.getfield 21, 3), (.getfield 79, 3), (.iload_n 1, 1)] (pc' := 48) (L' := [some (.ref 0), some (.int (nI p)), some (.int (nI 0)), none]) (S' := [.int (nI p), .ref 4]) rfl (by decide +kernel) rfl ?_
    refine Ev.aald p (by decide +kernel) (rfl) (by decide) (rfl) (by omega) (by first | decide | omega) (zz_a36 p (by omega)) ?_
    refine Ev.getf (idx := 58) (x := none) (v := .int (I (36 + 4 * p) 1)) rfl rfl (by decide +kernel) ((zz_r36 p (by omega)).1) rfl rfl ?_
    rw [show I (36 + 4 * p) 1 = nI (fz A p) from (hC.1.2.1 p hp).2.1.1]
    exact Ev.iret rfl (by decide +kernel) (⟨rfl, rfl⟩)
  · exact absurd ⟨p, hp, rfl⟩ h5

set_option maxRecDepth 100000 in
set_option maxHeartbeats 4000000 in
theorem c_X6_pair_1 {sc : Nat × (Nat → Int32)} {d : Nat} (I : Nat → Nat → Int32) (J : Nat → Nat → Int64) (A : zA) (hC : CR 3 I A) (hW : WF A) (p : Nat) (hp : p < aN A) : EvM sc (d + 1) 0 0 mX6_pair [.ref 0, .int (nI p), .int (nI 1)] (zz_SH, I, J) (zz_is (.int (nI (gz A p))) (zz_SH, I, J)) := by
  have w1 := hW.1.1
  have w2 := hW.1.2.1
  have t2 := (hW.2.1 p hp).1
  refine EvM.of (by decide) rfl (Nat.le_of_ble_eq_true rfl) ?_
  show Ev _ _ _ _ _ 0 [some (.ref 0), some (.int (nI p)), some (.int (nI 1)), none] [] (zz_SH, I, J) _
  refine Ev.run [(.aload_n 0, 1), (.getfield 21, 3), (.iload_n 1, 1)] (pc' := 5) (L' := [some (.ref 0), some (.int (nI p)), some (.int (nI 1)), none]) (S' := [.int (nI p), .ref 3]) rfl (by decide +kernel) rfl ?_
  refine Ev.callV0 mX2_isPair [.int (nI p)] [] _ rfl lk_RX6_69 (by decide +kernel) (rfl) rfl rfl rfl (Nat.le_of_ble_eq_true rfl) (c_X2_isPair I J (aN A) (nI p) hC.1.1.1 hW.1.1) ?_
  rintro _ _ ⟨rfl, ⟨rfl, h5⟩ | ⟨rfl, h5⟩⟩
  · show Ev _ _ _ _ _ 8 [some (.ref 0), some (.int (nI p)), some (.int (nI 1)), none] [.int (nI 1)] (zz_SH, I, J) _
    refine Ev.if_ne (off := 5) (tgt := 13) (by decide +kernel) (by decide) (fun h8 => ?_) (fun h8 => absurd h8 (by decide))
    refine Ev.run [(.iload_n 2, 1)] (pc' := 14) (L' := [some (.ref 0), some (.int (nI p)), some (.int (nI 1)), none]) (S' := [.int (nI 1)]) rfl (by decide +kernel) rfl ?_
    refine Ev.tblIn (dflt := 62) (lo := 0) (hi := 2) (offs := #[26, 39, 52]) (len := 26) (off := 39) (tgt := 53) (by decide +kernel) (by decide) (by decide) (by decide) (by decide) ?_
    refine Ev.run [(.aload_n 0, 1), (.getfield 21, 3), (.getfield 87, 3), (.iload_n 1, 1)] (pc' := 61) (L' := [some (.ref 0), some (.int (nI p)), some (.int (nI 1)), none]) (S' := [.int (nI p), .ref 5]) rfl (by decide +kernel) rfl ?_
    refine Ev.aald p (by decide +kernel) (rfl) (by decide) (rfl) (by omega) (by first | decide | omega) (zz_a38 p (by omega)) ?_
    refine Ev.getf (idx := 58) (x := none) (v := .int (I (38 + 4 * p) 1)) rfl rfl (by decide +kernel) ((zz_r38 p (by omega)).1) rfl rfl ?_
    rw [show I (38 + 4 * p) 1 = nI (gz A p) from (hC.1.2.1 p hp).2.2.1]
    exact Ev.iret rfl (by decide +kernel) (⟨rfl, rfl⟩)
  · exact absurd ⟨p, hp, rfl⟩ h5

set_option maxRecDepth 100000 in
set_option maxHeartbeats 4000000 in
theorem c_X6_pair_2 {sc : Nat × (Nat → Int32)} {d : Nat} (I : Nat → Nat → Int32) (J : Nat → Nat → Int64) (A : zA) (hC : CR 3 I A) (hW : WF A) (p : Nat) (hp : p < aN A) : EvM sc (d + 1) 0 0 mX6_pair [.ref 0, .int (nI p), .int (nI 2)] (zz_SH, I, J) (zz_is (.int (ob (aB A p))) (zz_SH, I, J)) := by
  have w1 := hW.1.1
  have w2 := hW.1.2.1
  have t2 := (hW.2.1 p hp).1
  refine EvM.of (by decide) rfl (Nat.le_of_ble_eq_true rfl) ?_
  show Ev _ _ _ _ _ 0 [some (.ref 0), some (.int (nI p)), some (.int (nI 2)), none] [] (zz_SH, I, J) _
  refine Ev.run [(.aload_n 0, 1), (.getfield 21, 3), (.iload_n 1, 1)] (pc' := 5) (L' := [some (.ref 0), some (.int (nI p)), some (.int (nI 2)), none]) (S' := [.int (nI p), .ref 3]) rfl (by decide +kernel) rfl ?_
  refine Ev.callV0 mX2_isPair [.int (nI p)] [] _ rfl lk_RX6_69 (by decide +kernel) (rfl) rfl rfl rfl (Nat.le_of_ble_eq_true rfl) (c_X2_isPair I J (aN A) (nI p) hC.1.1.1 hW.1.1) ?_
  rintro _ _ ⟨rfl, ⟨rfl, h5⟩ | ⟨rfl, h5⟩⟩
  · show Ev _ _ _ _ _ 8 [some (.ref 0), some (.int (nI p)), some (.int (nI 2)), none] [.int (nI 1)] (zz_SH, I, J) _
    refine Ev.if_ne (off := 5) (tgt := 13) (by decide +kernel) (by decide) (fun h8 => ?_) (fun h8 => absurd h8 (by decide))
    refine Ev.run [(.iload_n 2, 1)] (pc' := 14) (L' := [some (.ref 0), some (.int (nI p)), some (.int (nI 2)), none]) (S' := [.int (nI 2)]) rfl (by decide +kernel) rfl ?_
    refine Ev.tblIn (dflt := 62) (lo := 0) (hi := 2) (offs := #[26, 39, 52]) (len := 26) (off := 52) (tgt := 66) (by decide +kernel) (by decide) (by decide) (by decide) (by decide) ?_
    refine Ev.run [(.aload_n 0, 1), (.getfield 21, 3), (.getfield 90, 3), (.iload_n 1, 1)] (pc' := 74) (L' := [some (.ref 0), some (.int (nI p)), some (.int (nI 2)), none]) (S' := [.int (nI p), .ref 6]) rfl (by decide +kernel) rfl ?_
    refine Ev.iald p (by decide +kernel) (rfl) (rfl) (by omega) (by first | decide | omega) ?_
    dsimp only
    rw [show I 6 p = ob (aB A p) from (hC.1.2.1 p hp).1]
    exact Ev.iret rfl (by decide +kernel) (⟨rfl, rfl⟩)
  · exact absurd ⟨p, hp, rfl⟩ h5

set_option maxRecDepth 100000 in
set_option maxHeartbeats 4000000 in
theorem c_X6_pair_f {sc : Nat × (Nat → Int32)} {d : Nat} (I : Nat → Nat → Int32) (J : Nat → Nat → Int64) (A : zA) (hC : CR 3 I A) (hW : WF A) (p : Nat) (hp : p < aN A) (j : Nat) (hj : j < fz A p) : EvM sc (d + 1) 0 0 mX6_pair [.ref 0, .int (nI p), .int (nI (100 + j))] (zz_SH, I, J) (zz_is (.int (nI (ff A p j))) (zz_SH, I, J)) := by
  have w1 := hW.1.1
  have w2 := hW.1.2.1
  have t2 := (hW.2.1 p hp).1
  refine EvM.of (by decide) rfl (Nat.le_of_ble_eq_true rfl) ?_
  show Ev _ _ _ _ _ 0 [some (.ref 0), some (.int (nI p)), some (.int (nI (100 + j))), none] [] (zz_SH, I, J) _
  refine Ev.run [(.aload_n 0, 1), (.getfield 21, 3), (.iload_n 1, 1)] (pc' := 5) (L' := [some (.ref 0), some (.int (nI p)), some (.int (nI (100 + j))), none]) (S' := [.int (nI p), .ref 3]) rfl (by decide +kernel) rfl ?_
  refine Ev.callV0 mX2_isPair [.int (nI p)] [] _ rfl lk_RX6_69 (by decide +kernel) (rfl) rfl rfl rfl (Nat.le_of_ble_eq_true rfl) (c_X2_isPair I J (aN A) (nI p) hC.1.1.1 hW.1.1) ?_
  rintro _ _ ⟨rfl, ⟨rfl, h5⟩ | ⟨rfl, h5⟩⟩
  · show Ev _ _ _ _ _ 8 [some (.ref 0), some (.int (nI p)), some (.int (nI (100 + j))), none] [.int (nI 1)] (zz_SH, I, J) _
    refine Ev.if_ne (off := 5) (tgt := 13) (by decide +kernel) (by decide) (fun h8 => ?_) (fun h8 => absurd h8 (by decide))
    refine Ev.run [(.iload_n 2, 1)] (pc' := 14) (L' := [some (.ref 0), some (.int (nI p)), some (.int (nI (100 + j))), none]) (S' := [.int (nI (100 + j))]) rfl (by decide +kernel) rfl ?_
    refine Ev.tblOut (dflt := 62) (lo := 0) (hi := 2) (offs := #[26, 39, 52]) (len := 26) (tgt := 76) (by decide +kernel) (Or.inr (by rw [nI_toInt (by omega)]; omega)) (by decide) ?_
    refine Ev.run [(.iload_n 2, 1), (.sipush 200, 3)] (pc' := 80) (L' := [some (.ref 0), some (.int (nI p)), some (.int (nI (100 + j))), none]) (S' := [.int (nI 200), .int (nI (100 + j))]) rfl (by decide +kernel) rfl ?_
    refine Ev.icmp_ge (off := 22) (tgt := 102) (by decide +kernel) (by decide) (fun h80 => ?_) (fun h80 => ?_)
    · have h80 : (100 + j) ≥ 200 := zz_bG_t (by omega) (by omega) h80
      exfalso; omega
    · have h80 : (100 + j) < 200 := zz_bG_f (by omega) (by omega) h80
      refine Ev.run [(.aload_n 0, 1), (.getfield 21, 3), (.getfield 79, 3), (.iload_n 1, 1)] (pc' := 91) (L' := [some (.ref 0), some (.int (nI p)), some (.int (nI (100 + j))), none]) (S' := [.int (nI p), .ref 4]) rfl (by decide +kernel) rfl ?_
      refine Ev.aald p (by decide +kernel) (rfl) (by decide) (rfl) (by omega) (by first | decide | omega) (zz_a36 p (by omega)) ?_
      refine Ev.run [(.iload_n 2, 1), (.bipush 100, 2), (.isub, 1)] (pc' := 96) (L' := [some (.ref 0), some (.int (nI p)), some (.int (nI (100 + j))), none]) (S' := [.int (nI (100 + j) - nI 100), .ref (36 + 4 * p)]) rfl (by decide +kernel) rfl ?_
      rw [show nI (100 + j) - nI 100 = nI j from zz_sub (by omega)]
      refine Ev.callV0 mX4_at [.int (nI j)] [] _ rfl lk_RX6_107 (by decide +kernel) ((zz_r36 p (by omega)).1) rfl rfl rfl (Nat.le_of_ble_eq_true rfl) (c_X4_at I J (36 + 4 * p) 12 (nI j) (zz_r36 p (by omega))) ?_
      rintro _ _ ⟨rfl, rfl⟩
      rw [show zz_rat I (36 + 4 * p) 12 (nI j) = nI (ff A p j) from zz_rf.at (hC.1.2.1 p hp).2.1 t2.2.1 (by decide) hj]
      show Ev _ _ _ _ _ 99 [some (.ref 0), some (.int (nI p)), some (.int (nI (100 + j))), none] [.int (nI (ff A p j))] (zz_SH, I, J) _
      refine Ev.goto (off := 20) (tgt := 119) (by decide +kernel) (by decide) ?_
      refine Ev.run [(.istore_n 3, 1), (.iload_n 3, 1), (.bipush (-6), 2)] (pc' := 123) (L' := [some (.ref 0), some (.int (nI p)), some (.int (nI (100 + j))), some (.int (nI (ff A p j)))]) (S' := [.int ((-6)), .int (nI (ff A p j))]) rfl (by decide +kernel) rfl ?_
      refine Ev.icmp_ne (off := 8) (tgt := 131) (by decide +kernel) (by decide) (fun h123 => ?_) (fun h123 => absurd h123 (fun q => zz_m6 (ff A p j + 1) (by have := ((hW.2.1 p hp).2.1 j hj).2; omega) ⟨ff A p j, Nat.lt_succ_self _, q.symm⟩))
      refine Ev.run [(.iload_n 3, 1)] (pc' := 132) (L' := [some (.ref 0), some (.int (nI p)), some (.int (nI (100 + j))), some (.int (nI (ff A p j)))]) (S' := [.int (nI (ff A p j))]) rfl (by decide +kernel) rfl ?_
      exact Ev.iret rfl (by decide +kernel) (⟨rfl, rfl⟩)
  · exact absurd ⟨p, hp, rfl⟩ h5

set_option maxRecDepth 100000 in
set_option maxHeartbeats 4000000 in
theorem c_X6_pair_g {sc : Nat × (Nat → Int32)} {d : Nat} (I : Nat → Nat → Int32) (J : Nat → Nat → Int64) (A : zA) (hC : CR 3 I A) (hW : WF A) (p : Nat) (hp : p < aN A) (j : Nat) (hj : j < gz A p) : EvM sc (d + 1) 0 0 mX6_pair [.ref 0, .int (nI p), .int (nI (200 + j))] (zz_SH, I, J) (zz_is (.int (nI (gg A p j))) (zz_SH, I, J)) := by
  have w1 := hW.1.1
  have w2 := hW.1.2.1
  have t2 := (hW.2.1 p hp).1
  refine EvM.of (by decide) rfl (Nat.le_of_ble_eq_true rfl) ?_
  show Ev _ _ _ _ _ 0 [some (.ref 0), some (.int (nI p)), some (.int (nI (200 + j))), none] [] (zz_SH, I, J) _
  refine Ev.run [(.aload_n 0, 1), (.getfield 21, 3), (.iload_n 1, 1)] (pc' := 5) (L' := [some (.ref 0), some (.int (nI p)), some (.int (nI (200 + j))), none]) (S' := [.int (nI p), .ref 3]) rfl (by decide +kernel) rfl ?_
  refine Ev.callV0 mX2_isPair [.int (nI p)] [] _ rfl lk_RX6_69 (by decide +kernel) (rfl) rfl rfl rfl (Nat.le_of_ble_eq_true rfl) (c_X2_isPair I J (aN A) (nI p) hC.1.1.1 hW.1.1) ?_
  rintro _ _ ⟨rfl, ⟨rfl, h5⟩ | ⟨rfl, h5⟩⟩
  · show Ev _ _ _ _ _ 8 [some (.ref 0), some (.int (nI p)), some (.int (nI (200 + j))), none] [.int (nI 1)] (zz_SH, I, J) _
    refine Ev.if_ne (off := 5) (tgt := 13) (by decide +kernel) (by decide) (fun h8 => ?_) (fun h8 => absurd h8 (by decide))
    refine Ev.run [(.iload_n 2, 1)] (pc' := 14) (L' := [some (.ref 0), some (.int (nI p)), some (.int (nI (200 + j))), none]) (S' := [.int (nI (200 + j))]) rfl (by decide +kernel) rfl ?_
    refine Ev.tblOut (dflt := 62) (lo := 0) (hi := 2) (offs := #[26, 39, 52]) (len := 26) (tgt := 76) (by decide +kernel) (Or.inr (by rw [nI_toInt (by omega)]; omega)) (by decide) ?_
    refine Ev.run [(.iload_n 2, 1), (.sipush 200, 3)] (pc' := 80) (L' := [some (.ref 0), some (.int (nI p)), some (.int (nI (200 + j))), none]) (S' := [.int (nI 200), .int (nI (200 + j))]) rfl (by decide +kernel) rfl ?_
    refine Ev.icmp_ge (off := 22) (tgt := 102) (by decide +kernel) (by decide) (fun h80 => ?_) (fun h80 => ?_)
    · have h80 : (200 + j) ≥ 200 := zz_bG_t (by omega) (by omega) h80
      refine Ev.run [(.aload_n 0, 1), (.getfield 21, 3), (.getfield 87, 3), (.iload_n 1, 1)] (pc' := 110) (L' := [some (.ref 0), some (.int (nI p)), some (.int (nI (200 + j))), none]) (S' := [.int (nI p), .ref 5]) rfl (by decide +kernel) rfl ?_
      refine Ev.aald p (by decide +kernel) (rfl) (by decide) (rfl) (by omega) (by first | decide | omega) (zz_a38 p (by omega)) ?_
      refine Ev.run [(.iload_n 2, 1), (.sipush 200, 3), (.isub, 1)] (pc' := 116) (L' := [some (.ref 0), some (.int (nI p)), some (.int (nI (200 + j))), none]) (S' := [.int (nI (200 + j) - nI 200), .ref (38 + 4 * p)]) rfl (by decide +kernel) rfl ?_
      rw [show nI (200 + j) - nI 200 = nI j from zz_sub (by omega)]
      refine Ev.callV0 mX4_at [.int (nI j)] [] _ rfl lk_RX6_107 (by decide +kernel) ((zz_r38 p (by omega)).1) rfl rfl rfl (Nat.le_of_ble_eq_true rfl) (c_X4_at I J (38 + 4 * p) 12 (nI j) (zz_r38 p (by omega))) ?_
      rintro _ _ ⟨rfl, rfl⟩
      rw [show zz_rat I (38 + 4 * p) 12 (nI j) = nI (gg A p j) from zz_rf.at (hC.1.2.1 p hp).2.2 t2.2.2.2 (by decide) hj]
      show Ev _ _ _ _ _ 119 [some (.ref 0), some (.int (nI p)), some (.int (nI (200 + j))), none] [.int (nI (gg A p j))] (zz_SH, I, J) _
      refine Ev.run [(.istore_n 3, 1), (.iload_n 3, 1), (.bipush (-6), 2)] (pc' := 123) (L' := [some (.ref 0), some (.int (nI p)), some (.int (nI (200 + j))), some (.int (nI (gg A p j)))]) (S' := [.int ((-6)), .int (nI (gg A p j))]) rfl (by decide +kernel) rfl ?_
      refine Ev.icmp_ne (off := 8) (tgt := 131) (by decide +kernel) (by decide) (fun h123 => ?_) (fun h123 => absurd h123 (fun q => zz_m6 (gg A p j + 1) (by have := ((hW.2.1 p hp).2.2.1 j hj).2; omega) ⟨gg A p j, Nat.lt_succ_self _, q.symm⟩))
      refine Ev.run [(.iload_n 3, 1)] (pc' := 132) (L' := [some (.ref 0), some (.int (nI p)), some (.int (nI (200 + j))), some (.int (nI (gg A p j)))]) (S' := [.int (nI (gg A p j))]) rfl (by decide +kernel) rfl ?_
      exact Ev.iret rfl (by decide +kernel) (⟨rfl, rfl⟩)
    · have h80 : (200 + j) < 200 := zz_bG_f (by omega) (by omega) h80
      exfalso; omega
  · exact absurd ⟨p, hp, rfl⟩ h5

set_option maxRecDepth 100000 in
set_option maxHeartbeats 4000000 in
theorem c_X6_pair_o {sc : Nat × (Nat → Int32)} {d : Nat} (I : Nat → Nat → Int32) (J : Nat → Nat → Int64) (A : zA) (hC : CR 3 I A) (hW : WF A) (p : Nat) (hp : p < aN A) (y : Int32) (h1 : ¬ (nI 0 ≤ y ∧ y ≤ nI 2)) (h3 : ¬ (nI 100 ≤ y ∧ y ≤ nI (99 + fz A p))) (h4 : ¬ (nI 200 ≤ y ∧ y ≤ nI (199 + gz A p))) : EvM sc (d + 1) 0 0 mX6_pair [.ref 0, .int (nI p), .int y] (zz_SH, I, J) (zz_is (.int (-2)) (zz_SH, I, J)) := by
  have w1 := hW.1.1
  have w2 := hW.1.2.1
  have t2 := (hW.2.1 p hp).1
  refine EvM.of (by decide) rfl (Nat.le_of_ble_eq_true rfl) ?_
  show Ev _ _ _ _ _ 0 [some (.ref 0), some (.int (nI p)), some (.int y), none] [] (zz_SH, I, J) _
  refine Ev.run [(.aload_n 0, 1), (.getfield 21, 3), (.iload_n 1, 1)] (pc' := 5) (L' := [some (.ref 0), some (.int (nI p)), some (.int y), none]) (S' := [.int (nI p), .ref 3]) rfl (by decide +kernel) rfl ?_
  refine Ev.callV0 mX2_isPair [.int (nI p)] [] _ rfl lk_RX6_69 (by decide +kernel) (rfl) rfl rfl rfl (Nat.le_of_ble_eq_true rfl) (c_X2_isPair I J (aN A) (nI p) hC.1.1.1 hW.1.1) ?_
  rintro _ _ ⟨rfl, ⟨rfl, h5⟩ | ⟨rfl, h5⟩⟩
  · show Ev _ _ _ _ _ 8 [some (.ref 0), some (.int (nI p)), some (.int y), none] [.int (nI 1)] (zz_SH, I, J) _
    refine Ev.if_ne (off := 5) (tgt := 13) (by decide +kernel) (by decide) (fun h8 => ?_) (fun h8 => absurd h8 (by decide))
    refine Ev.run [(.iload_n 2, 1)] (pc' := 14) (L' := [some (.ref 0), some (.int (nI p)), some (.int y), none]) (S' := [.int y]) rfl (by decide +kernel) rfl ?_
    refine Ev.tblOut (dflt := 62) (lo := 0) (hi := 2) (offs := #[26, 39, 52]) (len := 26) (tgt := 76) (by decide +kernel) (by by_cases q : y.toInt < 0; exact Or.inl q; right; apply Int.not_le.mp; intro q2; exact h1 ⟨Int32.le_iff_toInt_le.mpr (by rw [show (nI 0).toInt = 0 by decide]; omega), Int32.le_iff_toInt_le.mpr (by rw [show (nI 2).toInt = 2 by decide]; exact q2)⟩) (by decide) ?_
    refine Ev.run [(.iload_n 2, 1), (.sipush 200, 3)] (pc' := 80) (L' := [some (.ref 0), some (.int (nI p)), some (.int y), none]) (S' := [.int (nI 200), .int y]) rfl (by decide +kernel) rfl ?_
    refine Ev.icmp_ge (off := 22) (tgt := 102) (by decide +kernel) (by decide) (fun h80 => ?_) (fun h80 => ?_)
    · refine Ev.run [(.aload_n 0, 1), (.getfield 21, 3), (.getfield 87, 3), (.iload_n 1, 1)] (pc' := 110) (L' := [some (.ref 0), some (.int (nI p)), some (.int y), none]) (S' := [.int (nI p), .ref 5]) rfl (by decide +kernel) rfl ?_
      refine Ev.aald p (by decide +kernel) (rfl) (by decide) (rfl) (by omega) (by first | decide | omega) (zz_a38 p (by omega)) ?_
      refine Ev.run [(.iload_n 2, 1), (.sipush 200, 3), (.isub, 1)] (pc' := 116) (L' := [some (.ref 0), some (.int (nI p)), some (.int y), none]) (S' := [.int (y - nI 200), .ref (38 + 4 * p)]) rfl (by decide +kernel) rfl ?_
      refine Ev.callV0 mX4_at [.int (y - nI 200)] [] _ rfl lk_RX6_107 (by decide +kernel) ((zz_r38 p (by omega)).1) rfl rfl rfl (Nat.le_of_ble_eq_true rfl) (c_X4_at I J (38 + 4 * p) 12 (y - nI 200) (zz_r38 p (by omega))) ?_
      rintro _ _ ⟨rfl, rfl⟩
      rw [show zz_rat I (38 + 4 * p) 12 (y - nI 200) = (-6) from zz_rat_no (hC.1.2.1 p hp).2.2.1 (by omega) (fun q => by obtain ⟨j, hj, rfl⟩ := zz_ixs q; exact h4 ⟨zz_nle (by omega) (by omega), zz_nle (by omega) (by omega)⟩)]
      show Ev _ _ _ _ _ 119 [some (.ref 0), some (.int (nI p)), some (.int y), none] [.int ((-6))] (zz_SH, I, J) _
      refine Ev.run [(.istore_n 3, 1), (.iload_n 3, 1), (.bipush (-6), 2)] (pc' := 123) (L' := [some (.ref 0), some (.int (nI p)), some (.int y), some (.int ((-6)))]) (S' := [.int ((-6)), .int ((-6))]) rfl (by decide +kernel) rfl ?_
      refine Ev.icmp_ne (off := 8) (tgt := 131) (by decide +kernel) (by decide) (fun h123 => ?_) (fun h123 => ?_)
      · exact absurd rfl h123
      · refine Ev.run [(.bipush (-2), 2)] (pc' := 128) (L' := [some (.ref 0), some (.int (nI p)), some (.int y), some (.int ((-6)))]) (S' := [.int ((-2))]) rfl (by decide +kernel) rfl ?_
        refine Ev.goto (off := 4) (tgt := 132) (by decide +kernel) (by decide) ?_
        exact Ev.iret rfl (by decide +kernel) (⟨rfl, rfl⟩)
    · refine Ev.run [(.aload_n 0, 1), (.getfield 21, 3), (.getfield 79, 3), (.iload_n 1, 1)] (pc' := 91) (L' := [some (.ref 0), some (.int (nI p)), some (.int y), none]) (S' := [.int (nI p), .ref 4]) rfl (by decide +kernel) rfl ?_
      refine Ev.aald p (by decide +kernel) (rfl) (by decide) (rfl) (by omega) (by first | decide | omega) (zz_a36 p (by omega)) ?_
      refine Ev.run [(.iload_n 2, 1), (.bipush 100, 2), (.isub, 1)] (pc' := 96) (L' := [some (.ref 0), some (.int (nI p)), some (.int y), none]) (S' := [.int (y - nI 100), .ref (36 + 4 * p)]) rfl (by decide +kernel) rfl ?_
      refine Ev.callV0 mX4_at [.int (y - nI 100)] [] _ rfl lk_RX6_107 (by decide +kernel) ((zz_r36 p (by omega)).1) rfl rfl rfl (Nat.le_of_ble_eq_true rfl) (c_X4_at I J (36 + 4 * p) 12 (y - nI 100) (zz_r36 p (by omega))) ?_
      rintro _ _ ⟨rfl, rfl⟩
      rw [show zz_rat I (36 + 4 * p) 12 (y - nI 100) = (-6) from zz_rat_no (hC.1.2.1 p hp).2.1.1 (by omega) (fun q => by obtain ⟨j, hj, rfl⟩ := zz_ixs q; exact h3 ⟨zz_nle (by omega) (by omega), zz_nle (by omega) (by omega)⟩)]
      show Ev _ _ _ _ _ 99 [some (.ref 0), some (.int (nI p)), some (.int y), none] [.int ((-6))] (zz_SH, I, J) _
      refine Ev.goto (off := 20) (tgt := 119) (by decide +kernel) (by decide) ?_
      refine Ev.run [(.istore_n 3, 1), (.iload_n 3, 1), (.bipush (-6), 2)] (pc' := 123) (L' := [some (.ref 0), some (.int (nI p)), some (.int y), some (.int ((-6)))]) (S' := [.int ((-6)), .int ((-6))]) rfl (by decide +kernel) rfl ?_
      refine Ev.icmp_ne (off := 8) (tgt := 131) (by decide +kernel) (by decide) (fun h123 => ?_) (fun h123 => ?_)
      · exact absurd rfl h123
      · refine Ev.run [(.bipush (-2), 2)] (pc' := 128) (L' := [some (.ref 0), some (.int (nI p)), some (.int y), some (.int ((-6)))]) (S' := [.int ((-2))]) rfl (by decide +kernel) rfl ?_
        refine Ev.goto (off := 4) (tgt := 132) (by decide +kernel) (by decide) ?_
        exact Ev.iret rfl (by decide +kernel) (⟨rfl, rfl⟩)
  · exact absurd ⟨p, hp, rfl⟩ h5

set_option maxRecDepth 100000 in
set_option maxHeartbeats 4000000 in
theorem c_X6_told_0 {sc : Nat × (Nat → Int32)} {d : Nat} (I : Nat → Nat → Int32) (J : Nat → Nat → Int64) (A : zA) (hC : CR 3 I A) (hW : WF A) (np : Nat) (hn : I 1 1 = nI np) (hnp : np ≤ 30) : EvM sc (d + 1) 0 0 mX6_told [.ref 0, .int (nI 0)] (zz_SH, I, J) (zz_is (.int (nI (np))) (zz_SH, I, J)) := by
  refine EvM.of (by decide) rfl (Nat.le_of_ble_eq_true rfl) ?_
  show Ev _ _ _ _ _ 0 [some (.ref 0), some (.int (nI 0))] [] (zz_SH, I, J) _
  refine Ev.run [(.iload_n 1, 1)] (pc' := 1) (L' := [some (.ref 0), some (.int (nI 0))]) (S' := [.int (nI 0)]) rfl (by decide +kernel) rfl ?_
  refine Ev.tblIn (dflt := 81) (lo := 0) (hi := 4) (offs := #[35, 43, 51, 59, 70]) (len := 35) (off := 35) (tgt := 36) (by decide +kernel) (by decide) (by decide) (by decide) (by decide) ?_
  refine Ev.run [(.aload_n 0, 1), (.getfield 14, 3), (.getfield 58, 3)] (pc' := 43) (L' := [some (.ref 0), some (.int (nI 0))]) (S' := [.int (I 1 1)]) rfl (by decide +kernel) rfl ?_
  rw [hn]
  exact Ev.iret rfl (by decide +kernel) (⟨rfl, rfl⟩)

set_option maxRecDepth 100000 in
set_option maxHeartbeats 4000000 in
theorem c_X6_told_1 {sc : Nat × (Nat → Int32)} {d : Nat} (I : Nat → Nat → Int32) (J : Nat → Nat → Int64) (A : zA) (hC : CR 3 I A) (hW : WF A) (np : Nat) (hn : I 1 1 = nI np) (hnp : np ≤ 30) : EvM sc (d + 1) 0 0 mX6_told [.ref 0, .int (nI 1)] (zz_SH, I, J) (zz_is (.int (nI (aN A))) (zz_SH, I, J)) := by
  refine EvM.of (by decide) rfl (Nat.le_of_ble_eq_true rfl) ?_
  show Ev _ _ _ _ _ 0 [some (.ref 0), some (.int (nI 1))] [] (zz_SH, I, J) _
  refine Ev.run [(.iload_n 1, 1)] (pc' := 1) (L' := [some (.ref 0), some (.int (nI 1))]) (S' := [.int (nI 1)]) rfl (by decide +kernel) rfl ?_
  refine Ev.tblIn (dflt := 81) (lo := 0) (hi := 4) (offs := #[35, 43, 51, 59, 70]) (len := 35) (off := 43) (tgt := 44) (by decide +kernel) (by decide) (by decide) (by decide) (by decide) ?_
  refine Ev.run [(.aload_n 0, 1), (.getfield 21, 3), (.getfield 72, 3)] (pc' := 51) (L' := [some (.ref 0), some (.int (nI 1))]) (S' := [.int (I 3 10)]) rfl (by decide +kernel) rfl ?_
  rw [show I 3 10 = nI (aN A) from hC.1.1.1]
  exact Ev.iret rfl (by decide +kernel) (⟨rfl, rfl⟩)

set_option maxRecDepth 100000 in
set_option maxHeartbeats 4000000 in
theorem c_X6_told_2 {sc : Nat × (Nat → Int32)} {d : Nat} (I : Nat → Nat → Int32) (J : Nat → Nat → Int64) (A : zA) (hC : CR 3 I A) (hW : WF A) (np : Nat) (hn : I 1 1 = nI np) (hnp : np ≤ 30) : EvM sc (d + 1) 0 0 mX6_told [.ref 0, .int (nI 2)] (zz_SH, I, J) (zz_is (.int (nI (aM A))) (zz_SH, I, J)) := by
  refine EvM.of (by decide) rfl (Nat.le_of_ble_eq_true rfl) ?_
  show Ev _ _ _ _ _ 0 [some (.ref 0), some (.int (nI 2))] [] (zz_SH, I, J) _
  refine Ev.run [(.iload_n 1, 1)] (pc' := 1) (L' := [some (.ref 0), some (.int (nI 2))]) (S' := [.int (nI 2)]) rfl (by decide +kernel) rfl ?_
  refine Ev.tblIn (dflt := 81) (lo := 0) (hi := 4) (offs := #[35, 43, 51, 59, 70]) (len := 35) (off := 51) (tgt := 52) (by decide +kernel) (by decide) (by decide) (by decide) (by decide) ?_
  refine Ev.run [(.aload_n 0, 1), (.getfield 21, 3), (.getfield 98, 3)] (pc' := 59) (L' := [some (.ref 0), some (.int (nI 2))]) (S' := [.int (I 3 11)]) rfl (by decide +kernel) rfl ?_
  rw [show I 3 11 = nI (aM A) from hC.1.1.2]
  exact Ev.iret rfl (by decide +kernel) (⟨rfl, rfl⟩)

set_option maxRecDepth 100000 in
set_option maxHeartbeats 4000000 in
theorem c_X6_told_3 {sc : Nat × (Nat → Int32)} {d : Nat} (I : Nat → Nat → Int32) (J : Nat → Nat → Int64) (A : zA) (hC : CR 3 I A) (hW : WF A) (np : Nat) (hn : I 1 1 = nI np) (hnp : np ≤ 30) : EvM sc (d + 1) 0 0 mX6_told [.ref 0, .int (nI 3)] (zz_SH, I, J) (zz_is (.int (nI (aa A))) (zz_SH, I, J)) := by
  refine EvM.of (by decide) rfl (Nat.le_of_ble_eq_true rfl) ?_
  show Ev _ _ _ _ _ 0 [some (.ref 0), some (.int (nI 3))] [] (zz_SH, I, J) _
  refine Ev.run [(.iload_n 1, 1)] (pc' := 1) (L' := [some (.ref 0), some (.int (nI 3))]) (S' := [.int (nI 3)]) rfl (by decide +kernel) rfl ?_
  refine Ev.tblIn (dflt := 81) (lo := 0) (hi := 4) (offs := #[35, 43, 51, 59, 70]) (len := 35) (off := 59) (tgt := 60) (by decide +kernel) (by decide) (by decide) (by decide) (by decide) ?_
  refine Ev.run [(.aload_n 0, 1), (.getfield 21, 3), (.getfield 204, 3), (.getfield 58, 3)] (pc' := 70) (L' := [some (.ref 0), some (.int (nI 3))]) (S' := [.int (I 32 1)]) rfl (by decide +kernel) rfl ?_
  rw [show I 32 1 = nI (aa A) from hC.1.2.2.2.2.2.1.1]
  exact Ev.iret rfl (by decide +kernel) (⟨rfl, rfl⟩)

set_option maxRecDepth 100000 in
set_option maxHeartbeats 4000000 in
theorem c_X6_told_4 {sc : Nat × (Nat → Int32)} {d : Nat} (I : Nat → Nat → Int32) (J : Nat → Nat → Int64) (A : zA) (hC : CR 3 I A) (hW : WF A) (np : Nat) (hn : I 1 1 = nI np) (hnp : np ≤ 30) : EvM sc (d + 1) 0 0 mX6_told [.ref 0, .int (nI 4)] (zz_SH, I, J) (zz_is (.int (nI (ab A))) (zz_SH, I, J)) := by
  refine EvM.of (by decide) rfl (Nat.le_of_ble_eq_true rfl) ?_
  show Ev _ _ _ _ _ 0 [some (.ref 0), some (.int (nI 4))] [] (zz_SH, I, J) _
  refine Ev.run [(.iload_n 1, 1)] (pc' := 1) (L' := [some (.ref 0), some (.int (nI 4))]) (S' := [.int (nI 4)]) rfl (by decide +kernel) rfl ?_
  refine Ev.tblIn (dflt := 81) (lo := 0) (hi := 4) (offs := #[35, 43, 51, 59, 70]) (len := 35) (off := 70) (tgt := 71) (by decide +kernel) (by decide) (by decide) (by decide) (by decide) ?_
  refine Ev.run [(.aload_n 0, 1), (.getfield 21, 3), (.getfield 207, 3), (.getfield 58, 3)] (pc' := 81) (L' := [some (.ref 0), some (.int (nI 4))]) (S' := [.int (I 34 1)]) rfl (by decide +kernel) rfl ?_
  rw [show I 34 1 = nI (ab A) from hC.1.2.2.2.2.2.2.1]
  exact Ev.iret rfl (by decide +kernel) (⟨rfl, rfl⟩)

set_option maxRecDepth 100000 in
set_option maxHeartbeats 4000000 in
theorem c_X6_ts_r {sc : Nat × (Nat → Int32)} {d : Nat} (I : Nat → Nat → Int32) (J : Nat → Nat → Int64) (A : zA) (hC : CR 3 I A) (hW : WF A) (b : Nat) (hb : b < 5) : EvM sc (d) 0 0 mX6_toldOfSettings [.ref 0, .int (nI (10 + b))] (zz_SH, I, J) (zz_is (.int (nI (rt A b))) (zz_SH, I, J)) := by
  refine EvM.of (by decide) rfl (Nat.le_of_ble_eq_true rfl) ?_
  show Ev _ _ _ _ _ 0 [some (.ref 0), some (.int (nI (10 + b)))] [] (zz_SH, I, J) _
  refine Ev.run [(.iload_n 1, 1), (.bipush 10, 2)] (pc' := 3) (L' := [some (.ref 0), some (.int (nI (10 + b)))]) (S' := [.int (nI 10), .int (nI (10 + b))]) rfl (by decide +kernel) rfl ?_
  refine Ev.icmp_lt (off := 22) (tgt := 25) (by decide +kernel) (by decide) (fun h3 => ?_) (fun h3 => ?_)
  · have h3 : (10 + b) < 10 := zz_bL_t (by omega) (by omega) h3
    exfalso; omega
  · have h3 : (10 + b) ≥ 10 := zz_bL_f (by omega) (by omega) h3
    refine Ev.run [(.iload_n 1, 1), (.bipush 15, 2)] (pc' := 9) (L' := [some (.ref 0), some (.int (nI (10 + b)))]) (S' := [.int (nI 15), .int (nI (10 + b))]) rfl (by decide +kernel) rfl ?_
    refine Ev.icmp_ge (off := 16) (tgt := 25) (by decide +kernel) (by decide) (fun h9 => ?_) (fun h9 => ?_)
    · have h9 : (10 + b) ≥ 15 := zz_bG_t (by omega) (by omega) h9
      exfalso; omega
    · have h9 : (10 + b) < 15 := zz_bG_f (by omega) (by omega) h9
      refine Ev.run [(.aload_n 0, 1), (.getfield 21, 3), (.getfield 143, 3), (.iload_n 1, 1), (.bipush 10, 2), (.isub, 1)] (pc' := 23) (L' := [some (.ref 0), some (.int (nI (10 + b)))]) (S' := [.int (nI (10 + b) - nI 10), .ref 30]) rfl (by decide +kernel) rfl ?_
      rw [show nI (10 + b) - nI 10 = nI b from zz_sub (by omega)]
      refine Ev.iald b (by decide +kernel) (rfl) (rfl) (by omega) (by first | decide | omega) ?_
      dsimp only
      rw [show I 30 b = nI (rt A b) from hC.1.2.2.2.1 b hb]
      exact Ev.iret rfl (by decide +kernel) (⟨rfl, rfl⟩)

set_option maxRecDepth 100000 in
set_option maxHeartbeats 4000000 in
theorem c_X6_ts_m {sc : Nat × (Nat → Int32)} {d : Nat} (I : Nat → Nat → Int32) (J : Nat → Nat → Int64) (A : zA) (hC : CR 3 I A) (hW : WF A) (w : Nat) (hw : w < 16) : EvM sc (d) 0 0 mX6_toldOfSettings [.ref 0, .int (nI (20 + w))] (zz_SH, I, J) (zz_is (.int (ob (mu A w))) (zz_SH, I, J)) := by
  refine EvM.of (by decide) rfl (Nat.le_of_ble_eq_true rfl) ?_
  show Ev _ _ _ _ _ 0 [some (.ref 0), some (.int (nI (20 + w)))] [] (zz_SH, I, J) _
  refine Ev.run [(.iload_n 1, 1), (.bipush 10, 2)] (pc' := 3) (L' := [some (.ref 0), some (.int (nI (20 + w)))]) (S' := [.int (nI 10), .int (nI (20 + w))]) rfl (by decide +kernel) rfl ?_
  refine Ev.icmp_lt (off := 22) (tgt := 25) (by decide +kernel) (by decide) (fun h3 => ?_) (fun h3 => ?_)
  · have h3 : (20 + w) < 10 := zz_bL_t (by omega) (by omega) h3
    exfalso; omega
  · have h3 : (20 + w) ≥ 10 := zz_bL_f (by omega) (by omega) h3
    refine Ev.run [(.iload_n 1, 1), (.bipush 15, 2)] (pc' := 9) (L' := [some (.ref 0), some (.int (nI (20 + w)))]) (S' := [.int (nI 15), .int (nI (20 + w))]) rfl (by decide +kernel) rfl ?_
    refine Ev.icmp_ge (off := 16) (tgt := 25) (by decide +kernel) (by decide) (fun h9 => ?_) (fun h9 => ?_)
    · have h9 : (20 + w) ≥ 15 := zz_bG_t (by omega) (by omega) h9
      refine Ev.run [(.iload_n 1, 1), (.bipush 20, 2)] (pc' := 28) (L' := [some (.ref 0), some (.int (nI (20 + w)))]) (S' := [.int (nI 20), .int (nI (20 + w))]) rfl (by decide +kernel) rfl ?_
      refine Ev.icmp_lt (off := 22) (tgt := 50) (by decide +kernel) (by decide) (fun h28 => ?_) (fun h28 => ?_)
      · have h28 : (20 + w) < 20 := zz_bL_t (by omega) (by omega) h28
        exfalso; omega
      · have h28 : (20 + w) ≥ 20 := zz_bL_f (by omega) (by omega) h28
        refine Ev.run [(.iload_n 1, 1), (.bipush 36, 2)] (pc' := 34) (L' := [some (.ref 0), some (.int (nI (20 + w)))]) (S' := [.int (nI 36), .int (nI (20 + w))]) rfl (by decide +kernel) rfl ?_
        refine Ev.icmp_ge (off := 16) (tgt := 50) (by decide +kernel) (by decide) (fun h34 => ?_) (fun h34 => ?_)
        · have h34 : (20 + w) ≥ 36 := zz_bG_t (by omega) (by omega) h34
          exfalso; omega
        · have h34 : (20 + w) < 36 := zz_bG_f (by omega) (by omega) h34
          refine Ev.run [(.aload_n 0, 1), (.getfield 21, 3), (.getfield 170, 3), (.iload_n 1, 1), (.bipush 20, 2), (.isub, 1)] (pc' := 48) (L' := [some (.ref 0), some (.int (nI (20 + w)))]) (S' := [.int (nI (20 + w) - nI 20), .ref 31]) rfl (by decide +kernel) rfl ?_
          rw [show nI (20 + w) - nI 20 = nI w from zz_sub (by omega)]
          refine Ev.iald w (by decide +kernel) (rfl) (rfl) (by omega) (by first | decide | omega) ?_
          dsimp only
          rw [show I 31 w = ob (mu A w) from hC.1.2.2.2.2.1 w hw]
          exact Ev.iret rfl (by decide +kernel) (⟨rfl, rfl⟩)
    · have h9 : (20 + w) < 15 := zz_bG_f (by omega) (by omega) h9
      exfalso; omega

theorem zz_lt_le {y : Int32} {n : Nat} (hn : n + 1 < 2 ^ 31) (h : ¬ nI (n + 1) ≤ y) : y ≤ nI n := by
  rw [Int32.le_iff_toInt_le, nI_toInt (by omega)] at *
  omega

set_option maxRecDepth 100000 in
set_option maxHeartbeats 4000000 in
theorem c_X6_ts_o {sc : Nat × (Nat → Int32)} {d : Nat} (I : Nat → Nat → Int32) (J : Nat → Nat → Int64) (x : Int32) (h1 : ¬ (nI 10 ≤ x ∧ x ≤ nI 14)) (h2 : ¬ (nI 20 ≤ x ∧ x ≤ nI 35)) : EvM sc (d) 0 0 mX6_toldOfSettings [.ref 0, .int x] (zz_SH, I, J) (zz_is (.int (-2)) (zz_SH, I, J)) := by
  refine EvM.of (by decide) rfl (Nat.le_of_ble_eq_true rfl) ?_
  show Ev _ _ _ _ _ 0 [some (.ref 0), some (.int x)] [] (zz_SH, I, J) _
  refine Ev.run [(.iload_n 1, 1), (.bipush 10, 2)] (pc' := 3) (L' := [some (.ref 0), some (.int x)]) (S' := [.int (nI 10), .int x]) rfl (by decide +kernel) rfl ?_
  refine Ev.icmp_lt (off := 22) (tgt := 25) (by decide +kernel) (by decide) (fun h3 => ?_) (fun h3 => ?_)
  · refine Ev.run [(.iload_n 1, 1), (.bipush 20, 2)] (pc' := 28) (L' := [some (.ref 0), some (.int x)]) (S' := [.int (nI 20), .int x]) rfl (by decide +kernel) rfl ?_
    refine Ev.icmp_lt (off := 22) (tgt := 50) (by decide +kernel) (by decide) (fun h28 => ?_) (fun h28 => ?_)
    · refine Ev.run [(.bipush (-2), 2)] (pc' := 52) (L' := [some (.ref 0), some (.int x)]) (S' := [.int ((-2))]) rfl (by decide +kernel) rfl ?_
      exact Ev.iret rfl (by decide +kernel) (⟨rfl, rfl⟩)
    · refine Ev.run [(.iload_n 1, 1), (.bipush 36, 2)] (pc' := 34) (L' := [some (.ref 0), some (.int x)]) (S' := [.int (nI 36), .int x]) rfl (by decide +kernel) rfl ?_
      refine Ev.icmp_ge (off := 16) (tgt := 50) (by decide +kernel) (by decide) (fun h34 => ?_) (fun h34 => ?_)
      · refine Ev.run [(.bipush (-2), 2)] (pc' := 52) (L' := [some (.ref 0), some (.int x)]) (S' := [.int ((-2))]) rfl (by decide +kernel) rfl ?_
        exact Ev.iret rfl (by decide +kernel) (⟨rfl, rfl⟩)
      · exact absurd ⟨Int32.not_lt.mp h28, zz_lt_le (n := 35) (by decide) h34⟩ h2
  · refine Ev.run [(.iload_n 1, 1), (.bipush 15, 2)] (pc' := 9) (L' := [some (.ref 0), some (.int x)]) (S' := [.int (nI 15), .int x]) rfl (by decide +kernel) rfl ?_
    refine Ev.icmp_ge (off := 16) (tgt := 25) (by decide +kernel) (by decide) (fun h9 => ?_) (fun h9 => ?_)
    · refine Ev.run [(.iload_n 1, 1), (.bipush 20, 2)] (pc' := 28) (L' := [some (.ref 0), some (.int x)]) (S' := [.int (nI 20), .int x]) rfl (by decide +kernel) rfl ?_
      refine Ev.icmp_lt (off := 22) (tgt := 50) (by decide +kernel) (by decide) (fun h28 => ?_) (fun h28 => ?_)
      · refine Ev.run [(.bipush (-2), 2)] (pc' := 52) (L' := [some (.ref 0), some (.int x)]) (S' := [.int ((-2))]) rfl (by decide +kernel) rfl ?_
        exact Ev.iret rfl (by decide +kernel) (⟨rfl, rfl⟩)
      · refine Ev.run [(.iload_n 1, 1), (.bipush 36, 2)] (pc' := 34) (L' := [some (.ref 0), some (.int x)]) (S' := [.int (nI 36), .int x]) rfl (by decide +kernel) rfl ?_
        refine Ev.icmp_ge (off := 16) (tgt := 50) (by decide +kernel) (by decide) (fun h34 => ?_) (fun h34 => ?_)
        · refine Ev.run [(.bipush (-2), 2)] (pc' := 52) (L' := [some (.ref 0), some (.int x)]) (S' := [.int ((-2))]) rfl (by decide +kernel) rfl ?_
          exact Ev.iret rfl (by decide +kernel) (⟨rfl, rfl⟩)
        · exact absurd ⟨Int32.not_lt.mp h28, zz_lt_le (n := 35) (by decide) h34⟩ h2
    · exact absurd ⟨Int32.not_lt.mp h3, zz_lt_le (n := 14) (by decide) h9⟩ h1

set_option maxRecDepth 100000 in
set_option maxHeartbeats 4000000 in
theorem c_X6_told_r {sc : Nat × (Nat → Int32)} {d : Nat} (I : Nat → Nat → Int32) (J : Nat → Nat → Int64) (A : zA) (hC : CR 3 I A) (hW : WF A) (b : Nat) (hb : b < 5) : EvM sc (d + 1) 0 0 mX6_told [.ref 0, .int (nI (10 + b))] (zz_SH, I, J) (zz_is (.int (nI (rt A b))) (zz_SH, I, J)) := by
  refine EvM.of (by decide) rfl (Nat.le_of_ble_eq_true rfl) ?_
  show Ev _ _ _ _ _ 0 [some (.ref 0), some (.int (nI (10 + b)))] [] (zz_SH, I, J) _
  refine Ev.run [(.iload_n 1, 1)] (pc' := 1) (L' := [some (.ref 0), some (.int (nI (10 + b)))]) (S' := [.int (nI (10 + b))]) rfl (by decide +kernel) rfl ?_
  refine Ev.tblOut (dflt := 81) (lo := 0) (hi := 4) (offs := #[35, 43, 51, 59, 70]) (len := 35) (tgt := 82) (by decide +kernel) (Or.inr (by rw [nI_toInt (by omega)]; omega)) (by decide) ?_
  refine Ev.run [(.aload_n 0, 1), (.iload_n 1, 1)] (pc' := 84) (L' := [some (.ref 0), some (.int (nI (10 + b)))]) (S' := [.int (nI (10 + b)), .ref 0]) rfl (by decide +kernel) rfl ?_
  refine Ev.callV0 mX6_toldOfSettings [.int (nI (10 + b))] [] _ rfl lk_RX6_227 (by decide +kernel) (rfl) rfl rfl rfl (Nat.le_of_ble_eq_true rfl) (c_X6_ts_r I J A hC hW b hb) ?_
  rintro _ _ ⟨rfl, rfl⟩
  show Ev _ _ _ _ _ 87 [some (.ref 0), some (.int (nI (10 + b)))] [.int (nI (rt A b))] (zz_SH, I, J) _
  exact Ev.iret rfl (by decide +kernel) (⟨rfl, rfl⟩)

set_option maxRecDepth 100000 in
set_option maxHeartbeats 4000000 in
theorem c_X6_told_m {sc : Nat × (Nat → Int32)} {d : Nat} (I : Nat → Nat → Int32) (J : Nat → Nat → Int64) (A : zA) (hC : CR 3 I A) (hW : WF A) (w : Nat) (hw : w < 16) : EvM sc (d + 1) 0 0 mX6_told [.ref 0, .int (nI (20 + w))] (zz_SH, I, J) (zz_is (.int (ob (mu A w))) (zz_SH, I, J)) := by
  refine EvM.of (by decide) rfl (Nat.le_of_ble_eq_true rfl) ?_
  show Ev _ _ _ _ _ 0 [some (.ref 0), some (.int (nI (20 + w)))] [] (zz_SH, I, J) _
  refine Ev.run [(.iload_n 1, 1)] (pc' := 1) (L' := [some (.ref 0), some (.int (nI (20 + w)))]) (S' := [.int (nI (20 + w))]) rfl (by decide +kernel) rfl ?_
  refine Ev.tblOut (dflt := 81) (lo := 0) (hi := 4) (offs := #[35, 43, 51, 59, 70]) (len := 35) (tgt := 82) (by decide +kernel) (Or.inr (by rw [nI_toInt (by omega)]; omega)) (by decide) ?_
  refine Ev.run [(.aload_n 0, 1), (.iload_n 1, 1)] (pc' := 84) (L' := [some (.ref 0), some (.int (nI (20 + w)))]) (S' := [.int (nI (20 + w)), .ref 0]) rfl (by decide +kernel) rfl ?_
  refine Ev.callV0 mX6_toldOfSettings [.int (nI (20 + w))] [] _ rfl lk_RX6_227 (by decide +kernel) (rfl) rfl rfl rfl (Nat.le_of_ble_eq_true rfl) (c_X6_ts_m I J A hC hW w hw) ?_
  rintro _ _ ⟨rfl, rfl⟩
  show Ev _ _ _ _ _ 87 [some (.ref 0), some (.int (nI (20 + w)))] [.int (ob (mu A w))] (zz_SH, I, J) _
  exact Ev.iret rfl (by decide +kernel) (⟨rfl, rfl⟩)

set_option maxRecDepth 100000 in
set_option maxHeartbeats 4000000 in
theorem c_X6_told_o {sc : Nat × (Nat → Int32)} {d : Nat} (I : Nat → Nat → Int32) (J : Nat → Nat → Int64) (x : Int32) (h1 : ¬ (nI 10 ≤ x ∧ x ≤ nI 14)) (h2 : ¬ (nI 20 ≤ x ∧ x ≤ nI 35)) (h3 : x.toInt < 0 ∨ 4 < x.toInt) : EvM sc (d + 1) 0 0 mX6_told [.ref 0, .int x] (zz_SH, I, J) (zz_is (.int (-2)) (zz_SH, I, J)) := by
  refine EvM.of (by decide) rfl (Nat.le_of_ble_eq_true rfl) ?_
  show Ev _ _ _ _ _ 0 [some (.ref 0), some (.int x)] [] (zz_SH, I, J) _
  refine Ev.run [(.iload_n 1, 1)] (pc' := 1) (L' := [some (.ref 0), some (.int x)]) (S' := [.int x]) rfl (by decide +kernel) rfl ?_
  refine Ev.tblOut (dflt := 81) (lo := 0) (hi := 4) (offs := #[35, 43, 51, 59, 70]) (len := 35) (tgt := 82) (by decide +kernel) (h3) (by decide) ?_
  refine Ev.run [(.aload_n 0, 1), (.iload_n 1, 1)] (pc' := 84) (L' := [some (.ref 0), some (.int x)]) (S' := [.int x, .ref 0]) rfl (by decide +kernel) rfl ?_
  refine Ev.callV0 mX6_toldOfSettings [.int x] [] _ rfl lk_RX6_227 (by decide +kernel) (rfl) rfl rfl rfl (Nat.le_of_ble_eq_true rfl) (c_X6_ts_o I J x h1 h2) ?_
  rintro _ _ ⟨rfl, rfl⟩
  show Ev _ _ _ _ _ 87 [some (.ref 0), some (.int x)] [.int ((-2))] (zz_SH, I, J) _
  exact Ev.iret rfl (by decide +kernel) (⟨rfl, rfl⟩)

set_option maxRecDepth 100000 in
set_option maxHeartbeats 4000000 in
theorem c_X6_length_o {sc : Nat × (Nat → Int32)} {d : Nat} (I : Nat → Nat → Int32) (J : Nat → Nat → Int64) (x y : Int32) (hxy : ¬ (zz_ix x 2 ∧ (nI 1 ≤ y ∧ y ≤ nI 99))) : EvM sc (d + 1) 0 0 mX6_length [.ref 0, .int x, .int y] (zz_SH, I, J) (zz_is (.int (-2)) (zz_SH, I, J)) := by
  refine EvM.of (by decide) rfl (Nat.le_of_ble_eq_true rfl) ?_
  show Ev _ _ _ _ _ 0 [some (.ref 0), some (.int x), some (.int y), none] [] (zz_SH, I, J) _
  refine Ev.run [(.iload_n 1, 1)] (pc' := 1) (L' := [some (.ref 0), some (.int x), some (.int y), none]) (S' := [.int x]) rfl (by decide +kernel) rfl ?_
  refine Ev.if_lt (off := 19) (tgt := 20) (by decide +kernel) (by decide) (fun h1 => ?_) (fun h1 => ?_)
  · refine Ev.run [(.bipush (-2), 2)] (pc' := 22) (L' := [some (.ref 0), some (.int x), some (.int y), none]) (S' := [.int ((-2))]) rfl (by decide +kernel) rfl ?_
    exact Ev.iret rfl (by decide +kernel) (⟨rfl, rfl⟩)
  · refine Ev.run [(.iload_n 1, 1), (.iconst 1, 1)] (pc' := 6) (L' := [some (.ref 0), some (.int x), some (.int y), none]) (S' := [.int (nI 1), .int x]) rfl (by decide +kernel) rfl ?_
    refine Ev.icmp_gt (off := 14) (tgt := 20) (by decide +kernel) (by decide) (fun h6 => ?_) (fun h6 => ?_)
    · refine Ev.run [(.bipush (-2), 2)] (pc' := 22) (L' := [some (.ref 0), some (.int x), some (.int y), none]) (S' := [.int ((-2))]) rfl (by decide +kernel) rfl ?_
      exact Ev.iret rfl (by decide +kernel) (⟨rfl, rfl⟩)
    · refine Ev.run [(.iload_n 2, 1), (.iconst 1, 1)] (pc' := 11) (L' := [some (.ref 0), some (.int x), some (.int y), none]) (S' := [.int (nI 1), .int y]) rfl (by decide +kernel) rfl ?_
      refine Ev.icmp_lt (off := 9) (tgt := 20) (by decide +kernel) (by decide) (fun h11 => ?_) (fun h11 => ?_)
      · refine Ev.run [(.bipush (-2), 2)] (pc' := 22) (L' := [some (.ref 0), some (.int x), some (.int y), none]) (S' := [.int ((-2))]) rfl (by decide +kernel) rfl ?_
        exact Ev.iret rfl (by decide +kernel) (⟨rfl, rfl⟩)
      · refine Ev.run [(.iload_n 2, 1), (.bipush 99, 2)] (pc' := 17) (L' := [some (.ref 0), some (.int x), some (.int y), none]) (S' := [.int (nI 99), .int y]) rfl (by decide +kernel) rfl ?_
        refine Ev.icmp_le (off := 6) (tgt := 23) (by decide +kernel) (by decide) (fun h17 => ?_) (fun h17 => ?_)
        · exact absurd ⟨zz_ixl (n := 1) (by decide) h1 (Int32.not_lt.mp h6), Int32.not_lt.mp h11, h17⟩ hxy
        · refine Ev.run [(.bipush (-2), 2)] (pc' := 22) (L' := [some (.ref 0), some (.int x), some (.int y), none]) (S' := [.int ((-2))]) rfl (by decide +kernel) rfl ?_
          exact Ev.iret rfl (by decide +kernel) (⟨rfl, rfl⟩)

set_option maxRecDepth 100000 in
set_option maxHeartbeats 4000000 in
theorem c_X6_length_f0 {sc : Nat × (Nat → Int32)} {d : Nat} (I : Nat → Nat → Int32) (J : Nat → Nat → Int64) (s : Nat) (hs : I 32 1 = nI s) (hs2 : s ≤ 12) (y : Int32) (hy : nI 1 ≤ y ∧ y ≤ nI 99) (hf : s = 12) : EvM sc (d + 1) 0 0 mX6_length [.ref 0, .int (nI 0), .int y] (zz_SH, I, J) (zz_is (.int (-4)) (zz_SH, I, J)) := by
  refine EvM.of (by decide) rfl (Nat.le_of_ble_eq_true rfl) ?_
  show Ev _ _ _ _ _ 0 [some (.ref 0), some (.int (nI 0)), some (.int y), none] [] (zz_SH, I, J) _
  refine Ev.run [(.iload_n 1, 1)] (pc' := 1) (L' := [some (.ref 0), some (.int (nI 0)), some (.int y), none]) (S' := [.int (nI 0)]) rfl (by decide +kernel) rfl ?_
  refine Ev.if_lt (off := 19) (tgt := 20) (by decide +kernel) (by decide) (fun h1 => absurd h1 (by decide)) (fun h1 => ?_)
  refine Ev.run [(.iload_n 1, 1), (.iconst 1, 1)] (pc' := 6) (L' := [some (.ref 0), some (.int (nI 0)), some (.int y), none]) (S' := [.int (nI 1), .int (nI 0)]) rfl (by decide +kernel) rfl ?_
  refine Ev.icmp_gt (off := 14) (tgt := 20) (by decide +kernel) (by decide) (fun h6 => absurd h6 (by decide)) (fun h6 => ?_)
  refine Ev.run [(.iload_n 2, 1), (.iconst 1, 1)] (pc' := 11) (L' := [some (.ref 0), some (.int (nI 0)), some (.int y), none]) (S' := [.int (nI 1), .int y]) rfl (by decide +kernel) rfl ?_
  refine Ev.icmp_lt (off := 9) (tgt := 20) (by decide +kernel) (by decide) (fun h11 => ?_) (fun h11 => ?_)
  · exact absurd h11 (Int32.not_lt.mpr hy.1)
  · refine Ev.run [(.iload_n 2, 1), (.bipush 99, 2)] (pc' := 17) (L' := [some (.ref 0), some (.int (nI 0)), some (.int y), none]) (S' := [.int (nI 99), .int y]) rfl (by decide +kernel) rfl ?_
    refine Ev.icmp_le (off := 6) (tgt := 23) (by decide +kernel) (by decide) (fun h17 => ?_) (fun h17 => ?_)
    · refine Ev.run [(.iload_n 1, 1)] (pc' := 24) (L' := [some (.ref 0), some (.int (nI 0)), some (.int y), none]) (S' := [.int (nI 0)]) rfl (by decide +kernel) rfl ?_
      refine Ev.if_ne (off := 13) (tgt := 37) (by decide +kernel) (by decide) (fun h24 => absurd h24 (by decide)) (fun h24 => ?_)
      refine Ev.run [(.aload_n 0, 1), (.getfield 21, 3), (.getfield 204, 3)] (pc' := 34) (L' := [some (.ref 0), some (.int (nI 0)), some (.int y), none]) (S' := [.ref 32]) rfl (by decide +kernel) rfl ?_
      refine Ev.goto (off := 10) (tgt := 44) (by decide +kernel) (by decide) ?_
      refine Ev.run [(.astore_n 3, 1), (.aload_n 3, 1), (.iload_n 2, 1)] (pc' := 47) (L' := [some (.ref 0), some (.int (nI 0)), some (.int y), some (.ref 32)]) (S' := [.int y, .ref 32]) rfl (by decide +kernel) rfl ?_
      refine Ev.callV0 mX4_add [.int y] [] _ rfl lk_RX6_54 (by decide +kernel) (rfl) rfl rfl rfl (Nat.le_of_ble_eq_true rfl) (c_X4_add_full I J 32 12 s y zz_row32 hs (by omega) (by omega)) ?_
      rintro _ _ ⟨rfl, rfl⟩
      show Ev _ _ _ _ _ 50 [some (.ref 0), some (.int (nI 0)), some (.int y), some (.ref 32)] [.int (nI 0)] (zz_SH, I, J) _
      refine Ev.if_eq (off := 10) (tgt := 60) (by decide +kernel) (by decide) (fun h50 => ?_) (fun h50 => absurd h50 (by decide))
      refine Ev.run [(.bipush (-4), 2)] (pc' := 62) (L' := [some (.ref 0), some (.int (nI 0)), some (.int y), some (.ref 32)]) (S' := [.int ((-4))]) rfl (by decide +kernel) rfl ?_
      exact Ev.iret rfl (by decide +kernel) (⟨rfl, rfl⟩)
    · exact absurd hy.2 h17

set_option maxRecDepth 100000 in
set_option maxHeartbeats 4000000 in
theorem c_X6_length_k0 {sc : Nat × (Nat → Int32)} {d : Nat} (I : Nat → Nat → Int32) (J : Nat → Nat → Int64) (s : Nat) (hs : I 32 1 = nI s) (hs2 : s ≤ 12) (y : Int32) (hy : nI 1 ≤ y ∧ y ≤ nI 99) (hf : s < 12) : EvM sc (d + 1) 0 0 mX6_length [.ref 0, .int (nI 0), .int y] (zz_SH, I, J) (zz_is (.int (nI (s + 1))) (zz_SH, zz_up (zz_up I (32 + 1) s y) 32 1 (nI (s + 1)), J)) := by
  refine EvM.of (by decide) rfl (Nat.le_of_ble_eq_true rfl) ?_
  show Ev _ _ _ _ _ 0 [some (.ref 0), some (.int (nI 0)), some (.int y), none] [] (zz_SH, I, J) _
  refine Ev.run [(.iload_n 1, 1)] (pc' := 1) (L' := [some (.ref 0), some (.int (nI 0)), some (.int y), none]) (S' := [.int (nI 0)]) rfl (by decide +kernel) rfl ?_
  refine Ev.if_lt (off := 19) (tgt := 20) (by decide +kernel) (by decide) (fun h1 => absurd h1 (by decide)) (fun h1 => ?_)
  refine Ev.run [(.iload_n 1, 1), (.iconst 1, 1)] (pc' := 6) (L' := [some (.ref 0), some (.int (nI 0)), some (.int y), none]) (S' := [.int (nI 1), .int (nI 0)]) rfl (by decide +kernel) rfl ?_
  refine Ev.icmp_gt (off := 14) (tgt := 20) (by decide +kernel) (by decide) (fun h6 => absurd h6 (by decide)) (fun h6 => ?_)
  refine Ev.run [(.iload_n 2, 1), (.iconst 1, 1)] (pc' := 11) (L' := [some (.ref 0), some (.int (nI 0)), some (.int y), none]) (S' := [.int (nI 1), .int y]) rfl (by decide +kernel) rfl ?_
  refine Ev.icmp_lt (off := 9) (tgt := 20) (by decide +kernel) (by decide) (fun h11 => ?_) (fun h11 => ?_)
  · exact absurd h11 (Int32.not_lt.mpr hy.1)
  · refine Ev.run [(.iload_n 2, 1), (.bipush 99, 2)] (pc' := 17) (L' := [some (.ref 0), some (.int (nI 0)), some (.int y), none]) (S' := [.int (nI 99), .int y]) rfl (by decide +kernel) rfl ?_
    refine Ev.icmp_le (off := 6) (tgt := 23) (by decide +kernel) (by decide) (fun h17 => ?_) (fun h17 => ?_)
    · refine Ev.run [(.iload_n 1, 1)] (pc' := 24) (L' := [some (.ref 0), some (.int (nI 0)), some (.int y), none]) (S' := [.int (nI 0)]) rfl (by decide +kernel) rfl ?_
      refine Ev.if_ne (off := 13) (tgt := 37) (by decide +kernel) (by decide) (fun h24 => absurd h24 (by decide)) (fun h24 => ?_)
      refine Ev.run [(.aload_n 0, 1), (.getfield 21, 3), (.getfield 204, 3)] (pc' := 34) (L' := [some (.ref 0), some (.int (nI 0)), some (.int y), none]) (S' := [.ref 32]) rfl (by decide +kernel) rfl ?_
      refine Ev.goto (off := 10) (tgt := 44) (by decide +kernel) (by decide) ?_
      refine Ev.run [(.astore_n 3, 1), (.aload_n 3, 1), (.iload_n 2, 1)] (pc' := 47) (L' := [some (.ref 0), some (.int (nI 0)), some (.int y), some (.ref 32)]) (S' := [.int y, .ref 32]) rfl (by decide +kernel) rfl ?_
      refine Ev.callV0 mX4_add [.int y] [] _ rfl lk_RX6_54 (by decide +kernel) (rfl) rfl rfl rfl (Nat.le_of_ble_eq_true rfl) (c_X4_add_ok I J 32 12 s y zz_row32 hs hf) ?_
      rintro _ _ ⟨rfl, rfl⟩
      show Ev _ _ _ _ _ 50 [some (.ref 0), some (.int (nI 0)), some (.int y), some (.ref 32)] [.int (nI 1)] (zz_SH, zz_up (zz_up I (32 + 1) s y) 32 1 (nI (s + 1)), J) _
      refine Ev.if_eq (off := 10) (tgt := 60) (by decide +kernel) (by decide) (fun h50 => absurd h50 (by decide)) (fun h50 => ?_)
      refine Ev.run [(.aload_n 3, 1), (.getfield 58, 3)] (pc' := 57) (L' := [some (.ref 0), some (.int (nI 0)), some (.int y), some (.ref 32)]) (S' := [.int ((zz_up (zz_up I (32 + 1) s y) 32 1 (nI (s + 1))) 32 1)]) rfl (by decide +kernel) rfl ?_
      rw [show (zz_up (zz_up I (32 + 1) s y) 32 1 (nI (s + 1))) 32 1 = nI (s + 1) from by rw [zz_up_eq, zz_ups]]
      refine Ev.goto (off := 5) (tgt := 62) (by decide +kernel) (by decide) ?_
      exact Ev.iret rfl (by decide +kernel) (⟨rfl, rfl⟩)
    · exact absurd hy.2 h17

set_option maxRecDepth 100000 in
set_option maxHeartbeats 4000000 in
theorem c_X6_length_f1 {sc : Nat × (Nat → Int32)} {d : Nat} (I : Nat → Nat → Int32) (J : Nat → Nat → Int64) (s : Nat) (hs : I 34 1 = nI s) (hs2 : s ≤ 12) (y : Int32) (hy : nI 1 ≤ y ∧ y ≤ nI 99) (hf : s = 12) : EvM sc (d + 1) 0 0 mX6_length [.ref 0, .int (nI 1), .int y] (zz_SH, I, J) (zz_is (.int (-4)) (zz_SH, I, J)) := by
  refine EvM.of (by decide) rfl (Nat.le_of_ble_eq_true rfl) ?_
  show Ev _ _ _ _ _ 0 [some (.ref 0), some (.int (nI 1)), some (.int y), none] [] (zz_SH, I, J) _
  refine Ev.run [(.iload_n 1, 1)] (pc' := 1) (L' := [some (.ref 0), some (.int (nI 1)), some (.int y), none]) (S' := [.int (nI 1)]) rfl (by decide +kernel) rfl ?_
  refine Ev.if_lt (off := 19) (tgt := 20) (by decide +kernel) (by decide) (fun h1 => absurd h1 (by decide)) (fun h1 => ?_)
  refine Ev.run [(.iload_n 1, 1), (.iconst 1, 1)] (pc' := 6) (L' := [some (.ref 0), some (.int (nI 1)), some (.int y), none]) (S' := [.int (nI 1), .int (nI 1)]) rfl (by decide +kernel) rfl ?_
  refine Ev.icmp_gt (off := 14) (tgt := 20) (by decide +kernel) (by decide) (fun h6 => absurd h6 (by decide)) (fun h6 => ?_)
  refine Ev.run [(.iload_n 2, 1), (.iconst 1, 1)] (pc' := 11) (L' := [some (.ref 0), some (.int (nI 1)), some (.int y), none]) (S' := [.int (nI 1), .int y]) rfl (by decide +kernel) rfl ?_
  refine Ev.icmp_lt (off := 9) (tgt := 20) (by decide +kernel) (by decide) (fun h11 => ?_) (fun h11 => ?_)
  · exact absurd h11 (Int32.not_lt.mpr hy.1)
  · refine Ev.run [(.iload_n 2, 1), (.bipush 99, 2)] (pc' := 17) (L' := [some (.ref 0), some (.int (nI 1)), some (.int y), none]) (S' := [.int (nI 99), .int y]) rfl (by decide +kernel) rfl ?_
    refine Ev.icmp_le (off := 6) (tgt := 23) (by decide +kernel) (by decide) (fun h17 => ?_) (fun h17 => ?_)
    · refine Ev.run [(.iload_n 1, 1)] (pc' := 24) (L' := [some (.ref 0), some (.int (nI 1)), some (.int y), none]) (S' := [.int (nI 1)]) rfl (by decide +kernel) rfl ?_
      refine Ev.if_ne (off := 13) (tgt := 37) (by decide +kernel) (by decide) (fun h24 => ?_) (fun h24 => absurd h24 (by decide))
      refine Ev.run [(.aload_n 0, 1), (.getfield 21, 3), (.getfield 207, 3), (.astore_n 3, 1), (.aload_n 3, 1), (.iload_n 2, 1)] (pc' := 47) (L' := [some (.ref 0), some (.int (nI 1)), some (.int y), some (.ref 34)]) (S' := [.int y, .ref 34]) rfl (by decide +kernel) rfl ?_
      refine Ev.callV0 mX4_add [.int y] [] _ rfl lk_RX6_54 (by decide +kernel) (rfl) rfl rfl rfl (Nat.le_of_ble_eq_true rfl) (c_X4_add_full I J 34 12 s y zz_row34 hs (by omega) (by omega)) ?_
      rintro _ _ ⟨rfl, rfl⟩
      show Ev _ _ _ _ _ 50 [some (.ref 0), some (.int (nI 1)), some (.int y), some (.ref 34)] [.int (nI 0)] (zz_SH, I, J) _
      refine Ev.if_eq (off := 10) (tgt := 60) (by decide +kernel) (by decide) (fun h50 => ?_) (fun h50 => absurd h50 (by decide))
      refine Ev.run [(.bipush (-4), 2)] (pc' := 62) (L' := [some (.ref 0), some (.int (nI 1)), some (.int y), some (.ref 34)]) (S' := [.int ((-4))]) rfl (by decide +kernel) rfl ?_
      exact Ev.iret rfl (by decide +kernel) (⟨rfl, rfl⟩)
    · exact absurd hy.2 h17

set_option maxRecDepth 100000 in
set_option maxHeartbeats 4000000 in
theorem c_X6_length_k1 {sc : Nat × (Nat → Int32)} {d : Nat} (I : Nat → Nat → Int32) (J : Nat → Nat → Int64) (s : Nat) (hs : I 34 1 = nI s) (hs2 : s ≤ 12) (y : Int32) (hy : nI 1 ≤ y ∧ y ≤ nI 99) (hf : s < 12) : EvM sc (d + 1) 0 0 mX6_length [.ref 0, .int (nI 1), .int y] (zz_SH, I, J) (zz_is (.int (nI (s + 1))) (zz_SH, zz_up (zz_up I (34 + 1) s y) 34 1 (nI (s + 1)), J)) := by
  refine EvM.of (by decide) rfl (Nat.le_of_ble_eq_true rfl) ?_
  show Ev _ _ _ _ _ 0 [some (.ref 0), some (.int (nI 1)), some (.int y), none] [] (zz_SH, I, J) _
  refine Ev.run [(.iload_n 1, 1)] (pc' := 1) (L' := [some (.ref 0), some (.int (nI 1)), some (.int y), none]) (S' := [.int (nI 1)]) rfl (by decide +kernel) rfl ?_
  refine Ev.if_lt (off := 19) (tgt := 20) (by decide +kernel) (by decide) (fun h1 => absurd h1 (by decide)) (fun h1 => ?_)
  refine Ev.run [(.iload_n 1, 1), (.iconst 1, 1)] (pc' := 6) (L' := [some (.ref 0), some (.int (nI 1)), some (.int y), none]) (S' := [.int (nI 1), .int (nI 1)]) rfl (by decide +kernel) rfl ?_
  refine Ev.icmp_gt (off := 14) (tgt := 20) (by decide +kernel) (by decide) (fun h6 => absurd h6 (by decide)) (fun h6 => ?_)
  refine Ev.run [(.iload_n 2, 1), (.iconst 1, 1)] (pc' := 11) (L' := [some (.ref 0), some (.int (nI 1)), some (.int y), none]) (S' := [.int (nI 1), .int y]) rfl (by decide +kernel) rfl ?_
  refine Ev.icmp_lt (off := 9) (tgt := 20) (by decide +kernel) (by decide) (fun h11 => ?_) (fun h11 => ?_)
  · exact absurd h11 (Int32.not_lt.mpr hy.1)
  · refine Ev.run [(.iload_n 2, 1), (.bipush 99, 2)] (pc' := 17) (L' := [some (.ref 0), some (.int (nI 1)), some (.int y), none]) (S' := [.int (nI 99), .int y]) rfl (by decide +kernel) rfl ?_
    refine Ev.icmp_le (off := 6) (tgt := 23) (by decide +kernel) (by decide) (fun h17 => ?_) (fun h17 => ?_)
    · refine Ev.run [(.iload_n 1, 1)] (pc' := 24) (L' := [some (.ref 0), some (.int (nI 1)), some (.int y), none]) (S' := [.int (nI 1)]) rfl (by decide +kernel) rfl ?_
      refine Ev.if_ne (off := 13) (tgt := 37) (by decide +kernel) (by decide) (fun h24 => ?_) (fun h24 => absurd h24 (by decide))
      refine Ev.run [(.aload_n 0, 1), (.getfield 21, 3), (.getfield 207, 3), (.astore_n 3, 1), (.aload_n 3, 1), (.iload_n 2, 1)] (pc' := 47) (L' := [some (.ref 0), some (.int (nI 1)), some (.int y), some (.ref 34)]) (S' := [.int y, .ref 34]) rfl (by decide +kernel) rfl ?_
      refine Ev.callV0 mX4_add [.int y] [] _ rfl lk_RX6_54 (by decide +kernel) (rfl) rfl rfl rfl (Nat.le_of_ble_eq_true rfl) (c_X4_add_ok I J 34 12 s y zz_row34 hs hf) ?_
      rintro _ _ ⟨rfl, rfl⟩
      show Ev _ _ _ _ _ 50 [some (.ref 0), some (.int (nI 1)), some (.int y), some (.ref 34)] [.int (nI 1)] (zz_SH, zz_up (zz_up I (34 + 1) s y) 34 1 (nI (s + 1)), J) _
      refine Ev.if_eq (off := 10) (tgt := 60) (by decide +kernel) (by decide) (fun h50 => absurd h50 (by decide)) (fun h50 => ?_)
      refine Ev.run [(.aload_n 3, 1), (.getfield 58, 3)] (pc' := 57) (L' := [some (.ref 0), some (.int (nI 1)), some (.int y), some (.ref 34)]) (S' := [.int ((zz_up (zz_up I (34 + 1) s y) 34 1 (nI (s + 1))) 34 1)]) rfl (by decide +kernel) rfl ?_
      rw [show (zz_up (zz_up I (34 + 1) s y) 34 1 (nI (s + 1))) 34 1 = nI (s + 1) from by rw [zz_up_eq, zz_ups]]
      refine Ev.goto (off := 5) (tgt := 62) (by decide +kernel) (by decide) ?_
      exact Ev.iret rfl (by decide +kernel) (⟨rfl, rfl⟩)
    · exact absurd hy.2 h17

set_option maxRecDepth 100000 in
set_option maxHeartbeats 4000000 in
theorem c_X6_lengths {sc : Nat × (Nat → Int32)} {d : Nat} (I : Nat → Nat → Int32) (J : Nat → Nat → Int64) (a b : Nat) (ha : I 32 1 = nI a) (hb : I 34 1 = nI b) : EvM sc (d) 0 0 mX6_lengths [.ref 0] (zz_SH, I, J) (zz_is (.int (nI (a + b))) (zz_SH, zz_up (zz_up I 32 1 (nI 0)) 34 1 (nI 0), J)) := by
  refine EvM.of (by decide) rfl (Nat.le_of_ble_eq_true rfl) ?_
  show Ev _ _ _ _ _ 0 [some (.ref 0), none] [] (zz_SH, I, J) _
  refine Ev.run [(.aload_n 0, 1), (.getfield 21, 3), (.getfield 204, 3), (.getfield 58, 3)] (pc' := 10) (L' := [some (.ref 0), none]) (S' := [.int (I 32 1)]) rfl (by decide +kernel) rfl ?_
  rw [ha]
  refine Ev.run [(.aload_n 0, 1), (.getfield 21, 3), (.getfield 207, 3), (.getfield 58, 3)] (pc' := 20) (L' := [some (.ref 0), none]) (S' := [.int (I 34 1), .int (nI a)]) rfl (by decide +kernel) rfl ?_
  rw [hb]
  refine Ev.run [(.iadd, 1)] (pc' := 21) (L' := [some (.ref 0), none]) (S' := [.int (nI a + nI b)]) rfl (by decide +kernel) rfl ?_
  rw [nI_add a b]
  refine Ev.run [(.istore_n 1, 1), (.aload_n 0, 1), (.getfield 21, 3), (.getfield 204, 3), (.iconst 0, 1)] (pc' := 30) (L' := [some (.ref 0), some (.int (nI (a + b)))]) (S' := [.int (nI 0), .ref 32]) rfl (by decide +kernel) rfl ?_
  refine Ev.putf (idx := 58) rfl rfl rfl (by decide +kernel) (rfl) rfl ?_
  dsimp only
  refine Ev.run [(.aload_n 0, 1), (.getfield 21, 3), (.getfield 207, 3), (.iconst 0, 1)] (pc' := 41) (L' := [some (.ref 0), some (.int (nI (a + b)))]) (S' := [.int (nI 0), .ref 34]) rfl (by decide +kernel) rfl ?_
  refine Ev.putf (idx := 58) rfl rfl rfl (by decide +kernel) (rfl) rfl ?_
  dsimp only
  refine Ev.run [(.iload_n 1, 1)] (pc' := 45) (L' := [some (.ref 0), some (.int (nI (a + b)))]) (S' := [.int (nI (a + b))]) rfl (by decide +kernel) rfl ?_
  exact Ev.iret rfl (by decide +kernel) (⟨rfl, rfl⟩)

set_option maxRecDepth 100000 in
set_option maxHeartbeats 4000000 in
theorem l_X6_cl1 {sc : Nat × (Nat → Int32)} {d : Nat} (I : Nat → Nat → Int32) (J : Nat → Nat → Int64) (A : zA) (hC : CR 3 I A) (hW : WF A) (p : Nat) (hp : p < aN A) (hpre : ∀ p1 q1, p1 < q1 → q1 < aN A → p1 < p → ¬ cls A p1 q1) (hout : (∀ q1, p < q1 → q1 < aN A → ¬ cls A p q1) → Ev sc (d + 2) 0 0 mX6_clash 89 [some (.ref 0), some (.int (nI p)), none] [] (zz_SH, I, J) (fun r σ => σ = (zz_SH, I, J) ∧ ∃ x : Int32, r = some (.int x) ∧ clr A x)) : ∀ (μ : Nat) (q : Nat), aN A - q < μ → (p < q) → (q ≤ aN A) → (∀ q1, p < q1 → q1 < q → ¬ cls A p q1) →  Ev sc (d + 2) 0 0 mX6_clash 17 [some (.ref 0), some (.int (nI p)), some (.int (nI q))] [] (zz_SH, I, J) (fun r σ => σ = (zz_SH, I, J) ∧ ∃ x : Int32, r = some (.int x) ∧ clr A x) := by
  intro μ
  induction μ with
  | zero => intro q hμ; exact absurd hμ (Nat.not_lt_zero _)
  | succ μ ih =>
    intro q hμ hq hq2 hno
    have w1 := hW.1.1
    have w2 := hW.1.2.1
    refine Ev.run [(.iload_n 2, 1), (.aload_n 0, 1), (.getfield 21, 3), (.getfield 72, 3)] (pc' := 25) (L' := [some (.ref 0), some (.int (nI p)), some (.int (nI q))]) (S' := [.int (I 3 10), .int (nI q)]) rfl (by decide +kernel) rfl ?_
    rw [show I 3 10 = nI (aN A) from hC.1.1.1]
    refine Ev.icmp_ge (off := 64) (tgt := 89) (by decide +kernel) (by decide) (fun h25 => ?_) (fun h25 => ?_)
    · have h25 : q ≥ (aN A) := zz_bG_t (by omega) (by omega) h25
      have hqe : aN A = q := by omega
      refine Ev.weakL (L' := [some (.ref 0), some (.int (nI p)), none]) ⟨rfl, rfl, trivial⟩ ?_
      exact hout (fun q1 z1 z2 => hno q1 z1 (by omega))
    · have h25 : q < (aN A) := zz_bG_f (by omega) (by omega) h25
      refine Ev.run [(.aload_n 0, 1), (.getfield 21, 3), (.getfield 79, 3), (.iload_n 1, 1)] (pc' := 36) (L' := [some (.ref 0), some (.int (nI p)), some (.int (nI q))]) (S' := [.int (nI p), .ref 4]) rfl (by decide +kernel) rfl ?_
      refine Ev.aald p (by decide +kernel) (rfl) (by decide) (rfl) (by omega) (by first | decide | omega) (zz_a36 p (by omega)) ?_
      refine Ev.run [(.aload_n 0, 1), (.getfield 21, 3), (.getfield 79, 3), (.iload_n 2, 1)] (pc' := 45) (L' := [some (.ref 0), some (.int (nI p)), some (.int (nI q))]) (S' := [.int (nI q), .ref 4, .ref (36 + 4 * p)]) rfl (by decide +kernel) rfl ?_
      refine Ev.aald q (by decide +kernel) (rfl) (by decide) (rfl) (by omega) (by first | decide | omega) (zz_a36 q (by omega)) ?_
      refine Ev.callV0 mX4_sameAs [.ref (36 + 4 * q)] [] _ rfl lk_RX6_200 (by decide +kernel) ((zz_r36 p (by omega)).1) rfl rfl rfl (Nat.le_of_ble_eq_true rfl) (c_X4_sameAs I J (36 + 4 * p) 12 (fz A p) (36 + 4 * q) 12 (fz A q) (zz_r36 p (by omega)) (hC.1.2.1 p hp).2.1.1 (hW.2.1 p hp).1.2.1 (zz_r36 q (by omega)) (hC.1.2.1 q (by omega)).2.1.1 (hW.2.1 q (by omega)).1.2.1) ?_
      rintro _ _ ⟨rfl, ⟨rfl, h46⟩ | ⟨rfl, h46⟩⟩
      · show Ev _ _ _ _ _ 49 [some (.ref 0), some (.int (nI p)), some (.int (nI q))] [.int (nI 1)] (zz_SH, I, J) _
        have h46 : al1 A p q := (zz_same (hC.1.2.1 p hp).2.1 (hC.1.2.1 q (by omega)).2.1 (hW.ff hp) (hW.ff (by omega))).mp h46
        refine Ev.if_eq (off := 34) (tgt := 83) (by decide +kernel) (by decide) (fun h49 => absurd h49 (by decide)) (fun h49 => ?_)
        refine Ev.run [(.aload_n 0, 1), (.getfield 21, 3), (.getfield 87, 3), (.iload_n 1, 1)] (pc' := 60) (L' := [some (.ref 0), some (.int (nI p)), some (.int (nI q))]) (S' := [.int (nI p), .ref 5]) rfl (by decide +kernel) rfl ?_
        refine Ev.aald p (by decide +kernel) (rfl) (by decide) (rfl) (by omega) (by first | decide | omega) (zz_a38 p (by omega)) ?_
        refine Ev.run [(.aload_n 0, 1), (.getfield 21, 3), (.getfield 87, 3), (.iload_n 2, 1)] (pc' := 69) (L' := [some (.ref 0), some (.int (nI p)), some (.int (nI q))]) (S' := [.int (nI q), .ref 5, .ref (38 + 4 * p)]) rfl (by decide +kernel) rfl ?_
        refine Ev.aald q (by decide +kernel) (rfl) (by decide) (rfl) (by omega) (by first | decide | omega) (zz_a38 q (by omega)) ?_
        refine Ev.callV0 mX4_sameAs [.ref (38 + 4 * q)] [] _ rfl lk_RX6_200 (by decide +kernel) ((zz_r38 p (by omega)).1) rfl rfl rfl (Nat.le_of_ble_eq_true rfl) (c_X4_sameAs I J (38 + 4 * p) 12 (gz A p) (38 + 4 * q) 12 (gz A q) (zz_r38 p (by omega)) (hC.1.2.1 p hp).2.2.1 (hW.2.1 p hp).1.2.2.2 (zz_r38 q (by omega)) (hC.1.2.1 q (by omega)).2.2.1 (hW.2.1 q (by omega)).1.2.2.2) ?_
        rintro _ _ ⟨rfl, ⟨rfl, h70⟩ | ⟨rfl, h70⟩⟩
        · show Ev _ _ _ _ _ 73 [some (.ref 0), some (.int (nI p)), some (.int (nI q))] [.int (nI 1)] (zz_SH, I, J) _
          have h70 : al2 A p q := (zz_same (hC.1.2.1 p hp).2.2 (hC.1.2.1 q (by omega)).2.2 (hW.gg hp) (hW.gg (by omega))).mp h70
          refine Ev.if_ne (off := 10) (tgt := 83) (by decide +kernel) (by decide) (fun h73 => ?_) (fun h73 => absurd h73 (by decide))
          refine Ev.run [(.iinc 2 1, 3)] (pc' := 86) (L' := [some (.ref 0), some (.int (nI p)), some (.int (nI q + 1))]) (S' := []) rfl (by decide +kernel) rfl ?_
          rw [nI_1 q]
          refine Ev.goto (off := (-69)) (tgt := 17) (by decide +kernel) (by decide) ?_
          exact ih (q + 1) (by omega) (by omega) (by omega) (fun q1 z1 z2 => if e9 : q1 = q then by rw [e9]; exact fun q9 => q9.2 h70 else hno q1 z1 (by omega))
        · show Ev _ _ _ _ _ 73 [some (.ref 0), some (.int (nI p)), some (.int (nI q))] [.int (nI 0)] (zz_SH, I, J) _
          have h70 : ¬ al2 A p q := fun q9 => h70 ((zz_same (hC.1.2.1 p hp).2.2 (hC.1.2.1 q (by omega)).2.2 (hW.gg hp) (hW.gg (by omega))).mpr q9)
          refine Ev.if_ne (off := 10) (tgt := 83) (by decide +kernel) (by decide) (fun h73 => absurd h73 (by decide)) (fun h73 => ?_)
          refine Ev.run [(.bipush 100, 2), (.iload_n 1, 1), (.imul, 1)] (pc' := 80) (L' := [some (.ref 0), some (.int (nI p)), some (.int (nI q))]) (S' := [.int (nI 100 * nI p)]) rfl (by decide +kernel) rfl ?_
          rw [pk_mul 100 p]
          refine Ev.run [(.iload_n 2, 1), (.iadd, 1)] (pc' := 82) (L' := [some (.ref 0), some (.int (nI p)), some (.int (nI q))]) (S' := [.int (nI (100 * p) + nI q)]) rfl (by decide +kernel) rfl ?_
          rw [nI_add (100 * p) q]
          exact Ev.iret rfl (by decide +kernel) (⟨rfl, _, rfl, Or.inr ⟨p, q, hq, by omega, ⟨h46, h70⟩, rfl, fun p1 q1 z1 z2 z3 => z3.elim (fun z4 => hpre p1 q1 z1 z2 z4) (fun z4 => by rw [z4.1]; exact hno q1 (by omega) z4.2)⟩⟩)
      · show Ev _ _ _ _ _ 49 [some (.ref 0), some (.int (nI p)), some (.int (nI q))] [.int (nI 0)] (zz_SH, I, J) _
        have h46 : ¬ al1 A p q := fun q9 => h46 ((zz_same (hC.1.2.1 p hp).2.1 (hC.1.2.1 q (by omega)).2.1 (hW.ff hp) (hW.ff (by omega))).mpr q9)
        refine Ev.if_eq (off := 34) (tgt := 83) (by decide +kernel) (by decide) (fun h49 => ?_) (fun h49 => absurd h49 (by decide))
        refine Ev.run [(.iinc 2 1, 3)] (pc' := 86) (L' := [some (.ref 0), some (.int (nI p)), some (.int (nI q + 1))]) (S' := []) rfl (by decide +kernel) rfl ?_
        rw [nI_1 q]
        refine Ev.goto (off := (-69)) (tgt := 17) (by decide +kernel) (by decide) ?_
        exact ih (q + 1) (by omega) (by omega) (by omega) (fun q1 z1 z2 => if e9 : q1 = q then by rw [e9]; exact fun q9 => h46 q9.1 else hno q1 z1 (by omega))

set_option maxRecDepth 100000 in
set_option maxHeartbeats 4000000 in
theorem l_X6_cl2 {sc : Nat × (Nat → Int32)} {d : Nat} (I : Nat → Nat → Int32) (J : Nat → Nat → Int64) (A : zA) (hC : CR 3 I A) (hW : WF A) : ∀ (μ : Nat) (p : Nat), aN A - p < μ → (p ≤ aN A) → (∀ p1 q1, p1 < q1 → q1 < aN A → p1 < p → ¬ cls A p1 q1) →  Ev sc (d + 2) 0 0 mX6_clash 2 [some (.ref 0), some (.int (nI p)), none] [] (zz_SH, I, J) (fun r σ => σ = (zz_SH, I, J) ∧ ∃ x : Int32, r = some (.int x) ∧ clr A x) := by
  intro μ
  induction μ with
  | zero => intro p hμ; exact absurd hμ (Nat.not_lt_zero _)
  | succ μ ih =>
    intro p hμ hp hpre
    have w1 := hW.1.1
    have w2 := hW.1.2.1
    refine Ev.run [(.iload_n 1, 1), (.aload_n 0, 1), (.getfield 21, 3), (.getfield 72, 3)] (pc' := 10) (L' := [some (.ref 0), some (.int (nI p)), none]) (S' := [.int (I 3 10), .int (nI p)]) rfl (by decide +kernel) rfl ?_
    rw [show I 3 10 = nI (aN A) from hC.1.1.1]
    refine Ev.icmp_ge (off := 85) (tgt := 95) (by decide +kernel) (by decide) (fun h10 => ?_) (fun h10 => ?_)
    · have h10 : p ≥ (aN A) := zz_bG_t (by omega) (by omega) h10
      have hpe : aN A = p := by omega
      refine Ev.run [(.bipush (-6), 2)] (pc' := 97) (L' := [some (.ref 0), some (.int (nI p)), none]) (S' := [.int ((-6))]) rfl (by decide +kernel) rfl ?_
      exact Ev.iret rfl (by decide +kernel) (⟨rfl, _, rfl, Or.inl ⟨rfl, fun p1 q1 z1 z2 => hpre p1 q1 z1 z2 (by omega)⟩⟩)
    · have h10 : p < (aN A) := zz_bG_f (by omega) (by omega) h10
      refine Ev.run [(.iload_n 1, 1), (.iconst 1, 1), (.iadd, 1)] (pc' := 16) (L' := [some (.ref 0), some (.int (nI p)), none]) (S' := [.int (nI p + nI 1)]) rfl (by decide +kernel) rfl ?_
      rw [nI_add p 1]
      refine Ev.run [(.istore_n 2, 1)] (pc' := 17) (L' := [some (.ref 0), some (.int (nI p)), some (.int (nI (p + 1)))]) (S' := []) rfl (by decide +kernel) rfl ?_
      refine l_X6_cl1 I J A hC hW p (by omega) hpre ?_ (aN A + 1) (p + 1) (by omega) (by omega) (by omega) (fun q1 z1 z2 => absurd z1 (by omega))
      intro hz
      show Ev _ _ _ _ _ 89 [some (.ref 0), some (.int (nI p)), none] [] (zz_SH, I, J) _
      refine Ev.run [(.iinc 1 1, 3)] (pc' := 92) (L' := [some (.ref 0), some (.int (nI p + 1)), none]) (S' := []) rfl (by decide +kernel) rfl ?_
      rw [nI_1 p]
      refine Ev.goto (off := (-90)) (tgt := 2) (by decide +kernel) (by decide) ?_
      exact ih (p + 1) (by omega) (by omega) (fun p1 q1 z1 z2 z3 => if e9 : p1 = p then by rw [e9]; exact hz q1 (by omega) z2 else hpre p1 q1 z1 z2 (by omega))

set_option maxRecDepth 100000 in
set_option maxHeartbeats 4000000 in
theorem c_X6_clash {sc : Nat × (Nat → Int32)} {d : Nat} (I : Nat → Nat → Int32) (J : Nat → Nat → Int64) (A : zA) (hC : CR 3 I A) (hW : WF A) : EvM sc (d + 2) 0 0 mX6_clash [.ref 0] (zz_SH, I, J) (fun r σ => σ = (zz_SH, I, J) ∧ ∃ x : Int32, r = some (.int x) ∧ clr A x) := by
  have w1 := hW.1.1
  have w2 := hW.1.2.1
  refine EvM.of (by decide) rfl (Nat.le_of_ble_eq_true rfl) ?_
  show Ev _ _ _ _ _ 0 [some (.ref 0), none, none] [] (zz_SH, I, J) _
  refine Ev.run [(.iconst 0, 1), (.istore_n 1, 1)] (pc' := 2) (L' := [some (.ref 0), some (.int (nI 0)), none]) (S' := []) rfl (by decide +kernel) rfl ?_
  exact l_X6_cl2 I J A hC hW (aN A + 1) 0 (by omega) (by omega) (fun p1 q1 z1 z2 z3 => absurd z3 (Nat.not_lt_zero p1))
