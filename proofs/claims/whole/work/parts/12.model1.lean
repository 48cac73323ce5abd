/-! ===== the model: small methods ===== -/

set_option maxRecDepth 100000 in
set_option maxHeartbeats 4000000 in
theorem c_X7_in {sc : Nat × (Nat → Int32)} {d : Nat} (I : Nat → Nat → Int32) (J : Nat → Nat → Int64) (v lo hi : Int32) : EvM sc (d) 0 0 mX7_in [.int v, .int lo, .int hi] (zz_SH, I, J) (zz_tf (lo ≤ v ∧ v ≤ hi) (zz_SH, I, J)) := by
  refine EvM.of (by decide) rfl (Nat.le_of_ble_eq_true rfl) ?_
  show Ev _ _ _ _ _ 0 [some (.int v), some (.int lo), some (.int hi)] [] (zz_SH, I, J) _
  refine Ev.run [(.iload_n 0, 1), (.iload_n 1, 1)] (pc' := 2) (L' := [some (.int v), some (.int lo), some (.int hi)]) (S' := [.int lo, .int v]) rfl (by decide +kernel) rfl ?_
  refine Ev.icmp_lt (off := 12) (tgt := 14) (by decide +kernel) (by decide) (fun h2 => ?_) (fun h2 => ?_)
  · refine Ev.run [(.iconst 0, 1)] (pc' := 15) (L' := [some (.int v), some (.int lo), some (.int hi)]) (S' := [.int (nI 0)]) rfl (by decide +kernel) rfl ?_
    exact Ev.zret rfl (by decide +kernel) (Or.inl rfl) (⟨rfl, Or.inr ⟨rfl, fun hh => absurd h2 (Int32.not_lt.mpr hh.1)⟩⟩)
  · refine Ev.run [(.iload_n 0, 1), (.iload_n 2, 1)] (pc' := 7) (L' := [some (.int v), some (.int lo), some (.int hi)]) (S' := [.int hi, .int v]) rfl (by decide +kernel) rfl ?_
    refine Ev.icmp_gt (off := 7) (tgt := 14) (by decide +kernel) (by decide) (fun h7 => ?_) (fun h7 => ?_)
    · refine Ev.run [(.iconst 0, 1)] (pc' := 15) (L' := [some (.int v), some (.int lo), some (.int hi)]) (S' := [.int (nI 0)]) rfl (by decide +kernel) rfl ?_
      exact Ev.zret rfl (by decide +kernel) (Or.inl rfl) (⟨rfl, Or.inr ⟨rfl, fun hh => absurd h7 (Int32.not_lt.mpr hh.2)⟩⟩)
    · refine Ev.run [(.iconst 1, 1)] (pc' := 11) (L' := [some (.int v), some (.int lo), some (.int hi)]) (S' := [.int (nI 1)]) rfl (by decide +kernel) rfl ?_
      refine Ev.goto (off := 4) (tgt := 15) (by decide +kernel) (by decide) ?_
      exact Ev.zret rfl (by decide +kernel) (Or.inr rfl) (⟨rfl, Or.inl ⟨rfl, Int32.not_lt.mp h2, Int32.not_lt.mp h7⟩⟩)

set_option maxRecDepth 100000 in
set_option maxHeartbeats 4000000 in
theorem c_X7_isPair {sc : Nat × (Nat → Int32)} {d : Nat} (I : Nat → Nat → Int32) (J : Nat → Nat → Int64) (N : Nat) (p : Int32) (hN : I 359 2 = nI N) (hN2 : N < 100) : EvM sc (d + 1) 0 0 mX7_isPair [.ref 359, .int p] (zz_SH, I, J) (zz_tf (zz_ix p N) (zz_SH, I, J)) := by
  refine EvM.of (by decide) rfl (Nat.le_of_ble_eq_true rfl) ?_
  show Ev _ _ _ _ _ 0 [some (.ref 359), some (.int p)] [] (zz_SH, I, J) _
  refine Ev.run [(.iload_n 1, 1), (.iconst 0, 1), (.aload_n 0, 1), (.getfield 75, 3)] (pc' := 6) (L' := [some (.ref 359), some (.int p)]) (S' := [.int (I 359 2), .int (nI 0), .int p]) rfl (by decide +kernel) rfl ?_
  rw [hN]
  refine Ev.run [(.iconst 1, 1), (.isub, 1)] (pc' := 8) (L' := [some (.ref 359), some (.int p)]) (S' := [.int (nI N - nI 1), .int (nI 0), .int p]) rfl (by decide +kernel) rfl ?_
  refine Ev.callS0 mX7_in [.int p, .int (nI 0), .int (nI N - nI 1)] [] _ rfl lk_RX7_79 (by decide +kernel) rfl (Nat.le_of_ble_eq_true rfl) (c_X7_in I J p (nI 0) (nI N - nI 1)) ?_
  rintro _ _ ⟨rfl, ⟨rfl, h8⟩ | ⟨rfl, h8⟩⟩
  · show Ev _ _ _ _ _ 11 [some (.ref 359), some (.int p)] [.int (nI 1)] (zz_SH, I, J) _
    rw [zz_ix_iff (by omega)] at h8
    exact Ev.zret rfl (by decide +kernel) (Or.inr rfl) (⟨rfl, Or.inl ⟨rfl, h8⟩⟩)
  · show Ev _ _ _ _ _ 11 [some (.ref 359), some (.int p)] [.int (nI 0)] (zz_SH, I, J) _
    rw [zz_ix_iff (by omega)] at h8
    exact Ev.zret rfl (by decide +kernel) (Or.inl rfl) (⟨rfl, Or.inr ⟨rfl, h8⟩⟩)

set_option maxRecDepth 100000 in
set_option maxHeartbeats 4000000 in
theorem c_X7_isSentence {sc : Nat × (Nat → Int32)} {d : Nat} (I : Nat → Nat → Int32) (J : Nat → Nat → Int64) (M : Nat) (p : Int32) (hN : I 359 8 = nI M) (hN2 : M < 100) : EvM sc (d + 1) 0 0 mX7_isSentence [.ref 359, .int p] (zz_SH, I, J) (zz_tf (zz_ix p M) (zz_SH, I, J)) := by
  refine EvM.of (by decide) rfl (Nat.le_of_ble_eq_true rfl) ?_
  show Ev _ _ _ _ _ 0 [some (.ref 359), some (.int p)] [] (zz_SH, I, J) _
  refine Ev.run [(.iload_n 1, 1), (.iconst 0, 1), (.aload_n 0, 1), (.getfield 83, 3)] (pc' := 6) (L' := [some (.ref 359), some (.int p)]) (S' := [.int (I 359 8), .int (nI 0), .int p]) rfl (by decide +kernel) rfl ?_
  rw [hN]
  refine Ev.run [(.iconst 1, 1), (.isub, 1)] (pc' := 8) (L' := [some (.ref 359), some (.int p)]) (S' := [.int (nI M - nI 1), .int (nI 0), .int p]) rfl (by decide +kernel) rfl ?_
  refine Ev.callS0 mX7_in [.int p, .int (nI 0), .int (nI M - nI 1)] [] _ rfl lk_RX7_79 (by decide +kernel) rfl (Nat.le_of_ble_eq_true rfl) (c_X7_in I J p (nI 0) (nI M - nI 1)) ?_
  rintro _ _ ⟨rfl, ⟨rfl, h8⟩ | ⟨rfl, h8⟩⟩
  · show Ev _ _ _ _ _ 11 [some (.ref 359), some (.int p)] [.int (nI 1)] (zz_SH, I, J) _
    rw [zz_ix_iff (by omega)] at h8
    exact Ev.zret rfl (by decide +kernel) (Or.inr rfl) (⟨rfl, Or.inl ⟨rfl, h8⟩⟩)
  · show Ev _ _ _ _ _ 11 [some (.ref 359), some (.int p)] [.int (nI 0)] (zz_SH, I, J) _
    rw [zz_ix_iff (by omega)] at h8
    exact Ev.zret rfl (by decide +kernel) (Or.inl rfl) (⟨rfl, Or.inr ⟨rfl, h8⟩⟩)

set_option maxRecDepth 100000 in
set_option maxHeartbeats 4000000 in
theorem c_X7_isWord {sc : Nat × (Nat → Int32)} {d : Nat} (I : Nat → Nat → Int32) (J : Nat → Nat → Int64) (p : Int32) : EvM sc (d + 1) 0 0 mX7_isWord [.int p] (zz_SH, I, J) (zz_tf (zz_ix p 16) (zz_SH, I, J)) := by
  refine EvM.of (by decide) rfl (Nat.le_of_ble_eq_true rfl) ?_
  show Ev _ _ _ _ _ 0 [some (.int p)] [] (zz_SH, I, J) _
  refine Ev.run [(.iload_n 0, 1), (.iconst 0, 1), (.bipush 15, 2)] (pc' := 4) (L' := [some (.int p)]) (S' := [.int (nI 15), .int (nI 0), .int p]) rfl (by decide +kernel) rfl ?_
  refine Ev.callS0 mX7_in [.int p, .int (nI 0), .int (nI 15)] [] _ rfl lk_RX7_79 (by decide +kernel) rfl (Nat.le_of_ble_eq_true rfl) (c_X7_in I J p (nI 0) (nI 15)) ?_
  rintro _ _ ⟨rfl, ⟨rfl, h4⟩ | ⟨rfl, h4⟩⟩
  · show Ev _ _ _ _ _ 7 [some (.int p)] [.int (nI 1)] (zz_SH, I, J) _
    rw [show (nI 15 : Int32) = nI 16 - nI 1 by decide, zz_ix_iff (by omega)] at h4
    exact Ev.zret rfl (by decide +kernel) (Or.inr rfl) (⟨rfl, Or.inl ⟨rfl, h4⟩⟩)
  · show Ev _ _ _ _ _ 7 [some (.int p)] [.int (nI 0)] (zz_SH, I, J) _
    rw [show (nI 15 : Int32) = nI 16 - nI 1 by decide, zz_ix_iff (by omega)] at h4
    exact Ev.zret rfl (by decide +kernel) (Or.inl rfl) (⟨rfl, Or.inr ⟨rfl, h4⟩⟩)

set_option maxRecDepth 100000 in
set_option maxHeartbeats 4000000 in
theorem c_X7_isNumber {sc : Nat × (Nat → Int32)} {d : Nat} (I : Nat → Nat → Int32) (J : Nat → Nat → Int64) (p : Int32) : EvM sc (d + 1) 0 0 mX7_isNumber [.int p] (zz_SH, I, J) (zz_tf (nI 48 ≤ p ∧ p ≤ nI 57) (zz_SH, I, J)) := by
  refine EvM.of (by decide) rfl (Nat.le_of_ble_eq_true rfl) ?_
  show Ev _ _ _ _ _ 0 [some (.int p)] [] (zz_SH, I, J) _
  refine Ev.run [(.iload_n 0, 1), (.bipush 48, 2), (.bipush 57, 2)] (pc' := 5) (L' := [some (.int p)]) (S' := [.int (nI 57), .int (nI 48), .int p]) rfl (by decide +kernel) rfl ?_
  refine Ev.callS0 mX7_in [.int p, .int (nI 48), .int (nI 57)] [] _ rfl lk_RX7_79 (by decide +kernel) rfl (Nat.le_of_ble_eq_true rfl) (c_X7_in I J p (nI 48) (nI 57)) ?_
  rintro _ _ ⟨rfl, ⟨rfl, h5⟩ | ⟨rfl, h5⟩⟩
  · show Ev _ _ _ _ _ 8 [some (.int p)] [.int (nI 1)] (zz_SH, I, J) _
    have h5 := h5
    exact Ev.zret rfl (by decide +kernel) (Or.inr rfl) (⟨rfl, Or.inl ⟨rfl, h5⟩⟩)
  · show Ev _ _ _ _ _ 8 [some (.int p)] [.int (nI 0)] (zz_SH, I, J) _
    have h5 := h5
    exact Ev.zret rfl (by decide +kernel) (Or.inl rfl) (⟨rfl, Or.inr ⟨rfl, h5⟩⟩)
