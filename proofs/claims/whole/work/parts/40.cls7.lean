/-! ===== the class: words ===== -/
theorem zz_dec {a : Nat} (h : 1 ≤ a) : nI a + (-1) = nI (a - 1) := by
  obtain ⟨j, rfl⟩ : ∃ j, a = j + 1 := ⟨a - 1, by omega⟩
  exact pk_m1 j
theorem zz_ctN {I : Nat → Nat → Int32} {k s : Nat} {f : Nat → Nat} {v : Nat} (hf : zz_rf I k s f) (hfr : ∀ i, i < s → f i < 1000) (hv : v < 1000) : ∀ n, n ≤ s → zz_ct (I (k + 1)) (nI v) n = ctN f v n
  | 0, _ => rfl
  | n + 1, h => by
    rw [zz_ct, ctN, zz_ctN hf hfr hv n (by omega), hf.2 n (by omega)]
    have := hfr n (by omega)
    by_cases e : f n = v
    · rw [if_pos e, if_pos (by rw [e])]
    · rw [if_neg e, if_neg (fun q => e ((nI_eq (by omega) (by omega)).mp q))]
theorem ctN_z {f : Nat → Nat} {v : Nat} : ∀ n, (∀ j, j < n → f j ≠ v) → ctN f v n = 0
  | 0, _ => rfl
  | n + 1, h => by rw [ctN, ctN_z n (fun j hj => h j (by omega)), if_neg (h n (by omega))]
theorem ctN_p {f : Nat → Nat} {v j : Nat} (hj : f j = v) : ∀ n, j < n → 0 < ctN f v n
  | 0, h => absurd h (Nat.not_lt_zero _)
  | n + 1, h => by
    rw [ctN]
    by_cases e : j = n
    · rw [if_pos (by rw [← e]; exact hj)]; omega
    · have := ctN_p hj n (by omega); omega
theorem wb_mono {A : zA} {p n : Nat} (h : wb A p n = 1) : ∀ k, wb A p (n + k) = 1
  | 0 => h
  | k + 1 => by rw [← Nat.add_assoc, wb, if_pos (Or.inl (by rw [wb_mono h k]; decide))]

set_option maxRecDepth 100000 in
set_option maxHeartbeats 4000000 in
theorem c_X5_inFirst {sc : Nat × (Nat → Int32)} {d : Nat} (I : Nat → Nat → Int32) (J : Nat → Nat → Int64) (A : zA) (hW : WF A) (p w : Nat) (hp : p < aN A) (hw : w < 16) (hrf : zz_rf I (36 + 4 * p) (fz A p) (ff A p)) : EvM sc (d + 2) 0 0 mX5_inFirst [.ref 3, .int (nI p), .int (nI w)] (zz_SH, I, J) (zz_tf (0 < cF A p w) (zz_SH, I, J)) := by
  have w1 := hW.1.1
  have w2 := hW.1.2.1
  refine EvM.of (by decide) rfl (Nat.le_of_ble_eq_true rfl) ?_
  show Ev _ _ _ _ _ 0 [some (.ref 3), some (.int (nI p)), some (.int (nI w))] [] (zz_SH, I, J) _
  refine Ev.run [(.aload_n 0, 1), (.getfield 15, 3), (.iload_n 1, 1)] (pc' := 5) (L' := [some (.ref 3), some (.int (nI p)), some (.int (nI w))]) (S' := [.int (nI p), .ref 4]) rfl (by decide +kernel) rfl ?_
  refine Ev.aald p (by decide +kernel) (rfl) (by decide) (rfl) (by omega) (by first | decide | omega) (zz_a36 p (by omega)) ?_
  refine Ev.run [(.bipush 97, 2), (.iload_n 2, 1), (.iadd, 1)] (pc' := 10) (L' := [some (.ref 3), some (.int (nI p)), some (.int (nI w))]) (S' := [.int (nI 97 + nI w), .ref (36 + 4 * p)]) rfl (by decide +kernel) rfl ?_
  rw [nI_add 97 w]
  refine Ev.callV0 mX4_placeOf [.int (nI (97 + w))] [] _ rfl lk_RX5_28 (by decide +kernel) ((zz_r36 p (by omega)).1) rfl rfl rfl (Nat.le_of_ble_eq_true rfl) (c_X4_placeOf I J (36 + 4 * p) 12 (fz A p) (nI (97 + w)) (zz_r36 p (by omega)) hrf.1 (hW.2.1 p hp).1.2.1) ?_
  rintro _ _ ⟨rfl, x9, rfl, ⟨rfl, h10⟩ | ⟨j9, hj9, rfl, h10, h12⟩⟩
  · show Ev _ _ _ _ _ 13 [some (.ref 3), some (.int (nI p)), some (.int (nI w))] [.int ((-6))] (zz_SH, I, J) _
    have h10 : cF A p w = 0 := ctN_z _ (fun j hj e => h10 j hj (by rw [hrf.2 j hj, e]))
    refine Ev.run [(.bipush (-6), 2)] (pc' := 15) (L' := [some (.ref 3), some (.int (nI p)), some (.int (nI w))]) (S' := [.int ((-6)), .int ((-6))]) rfl (by decide +kernel) rfl ?_
    refine Ev.icmp_eq (off := 7) (tgt := 22) (by decide +kernel) (by decide) (fun h15 => ?_) (fun h15 => ?_)
    · refine Ev.run [(.iconst 0, 1)] (pc' := 23) (L' := [some (.ref 3), some (.int (nI p)), some (.int (nI w))]) (S' := [.int (nI 0)]) rfl (by decide +kernel) rfl ?_
      exact Ev.zret rfl (by decide +kernel) (Or.inl rfl) (⟨rfl, Or.inr ⟨rfl, by omega⟩⟩)
    · exact absurd rfl h15
  · show Ev _ _ _ _ _ 13 [some (.ref 3), some (.int (nI p)), some (.int (nI w))] [.int (nI j9)] (zz_SH, I, J) _
    have h10 : 0 < cF A p w := ctN_p ((nI_eq (by have := hW.ff hp j9 hj9; omega) (by omega)).mp (by rw [← hrf.2 j9 hj9]; exact h10)) _ hj9
    refine Ev.run [(.bipush (-6), 2)] (pc' := 15) (L' := [some (.ref 3), some (.int (nI p)), some (.int (nI w))]) (S' := [.int ((-6)), .int (nI j9)]) rfl (by decide +kernel) rfl ?_
    refine Ev.icmp_eq (off := 7) (tgt := 22) (by decide +kernel) (by decide) (fun h15 => absurd h15 (fun q => zz_m6 (j9 + 1) (by have := (hW.2.1 p hp).1; omega) ⟨j9, Nat.lt_succ_self _, q.symm⟩)) (fun h15 => ?_)
    refine Ev.run [(.iconst 1, 1)] (pc' := 19) (L' := [some (.ref 3), some (.int (nI p)), some (.int (nI w))]) (S' := [.int (nI 1)]) rfl (by decide +kernel) rfl ?_
    refine Ev.goto (off := 4) (tgt := 23) (by decide +kernel) (by decide) ?_
    exact Ev.zret rfl (by decide +kernel) (Or.inr rfl) (⟨rfl, Or.inl ⟨rfl, h10⟩⟩)

set_option maxRecDepth 100000 in
set_option maxHeartbeats 4000000 in
theorem c_X5_inSecond {sc : Nat × (Nat → Int32)} {d : Nat} (I : Nat → Nat → Int32) (J : Nat → Nat → Int64) (A : zA) (hW : WF A) (p w : Nat) (hp : p < aN A) (hw : w < 16) (hrf : zz_rf I (38 + 4 * p) (gz A p) (gg A p)) : EvM sc (d + 2) 0 0 mX5_inSecond [.ref 3, .int (nI p), .int (nI w)] (zz_SH, I, J) (zz_tf (0 < cG A p w) (zz_SH, I, J)) := by
  have w1 := hW.1.1
  have w2 := hW.1.2.1
  refine EvM.of (by decide) rfl (Nat.le_of_ble_eq_true rfl) ?_
  show Ev _ _ _ _ _ 0 [some (.ref 3), some (.int (nI p)), some (.int (nI w))] [] (zz_SH, I, J) _
  refine Ev.run [(.aload_n 0, 1), (.getfield 25, 3), (.iload_n 1, 1)] (pc' := 5) (L' := [some (.ref 3), some (.int (nI p)), some (.int (nI w))]) (S' := [.int (nI p), .ref 5]) rfl (by decide +kernel) rfl ?_
  refine Ev.aald p (by decide +kernel) (rfl) (by decide) (rfl) (by omega) (by first | decide | omega) (zz_a38 p (by omega)) ?_
  refine Ev.run [(.bipush 65, 2), (.iload_n 2, 1), (.iadd, 1)] (pc' := 10) (L' := [some (.ref 3), some (.int (nI p)), some (.int (nI w))]) (S' := [.int (nI 65 + nI w), .ref (38 + 4 * p)]) rfl (by decide +kernel) rfl ?_
  rw [nI_add 65 w]
  refine Ev.callV0 mX4_placeOf [.int (nI (65 + w))] [] _ rfl lk_RX5_28 (by decide +kernel) ((zz_r38 p (by omega)).1) rfl rfl rfl (Nat.le_of_ble_eq_true rfl) (c_X4_placeOf I J (38 + 4 * p) 12 (gz A p) (nI (65 + w)) (zz_r38 p (by omega)) hrf.1 (hW.2.1 p hp).1.2.2.2) ?_
  rintro _ _ ⟨rfl, x9, rfl, ⟨rfl, h10⟩ | ⟨j9, hj9, rfl, h10, h12⟩⟩
  · show Ev _ _ _ _ _ 13 [some (.ref 3), some (.int (nI p)), some (.int (nI w))] [.int ((-6))] (zz_SH, I, J) _
    have h10 : cG A p w = 0 := ctN_z _ (fun j hj e => h10 j hj (by rw [hrf.2 j hj, e]))
    refine Ev.run [(.bipush (-6), 2)] (pc' := 15) (L' := [some (.ref 3), some (.int (nI p)), some (.int (nI w))]) (S' := [.int ((-6)), .int ((-6))]) rfl (by decide +kernel) rfl ?_
    refine Ev.icmp_eq (off := 7) (tgt := 22) (by decide +kernel) (by decide) (fun h15 => ?_) (fun h15 => ?_)
    · refine Ev.run [(.iconst 0, 1)] (pc' := 23) (L' := [some (.ref 3), some (.int (nI p)), some (.int (nI w))]) (S' := [.int (nI 0)]) rfl (by decide +kernel) rfl ?_
      exact Ev.zret rfl (by decide +kernel) (Or.inl rfl) (⟨rfl, Or.inr ⟨rfl, by omega⟩⟩)
    · exact absurd rfl h15
  · show Ev _ _ _ _ _ 13 [some (.ref 3), some (.int (nI p)), some (.int (nI w))] [.int (nI j9)] (zz_SH, I, J) _
    have h10 : 0 < cG A p w := ctN_p ((nI_eq (by have := hW.gg hp j9 hj9; omega) (by omega)).mp (by rw [← hrf.2 j9 hj9]; exact h10)) _ hj9
    refine Ev.run [(.bipush (-6), 2)] (pc' := 15) (L' := [some (.ref 3), some (.int (nI p)), some (.int (nI w))]) (S' := [.int ((-6)), .int (nI j9)]) rfl (by decide +kernel) rfl ?_
    refine Ev.icmp_eq (off := 7) (tgt := 22) (by decide +kernel) (by decide) (fun h15 => absurd h15 (fun q => zz_m6 (j9 + 1) (by have := (hW.2.1 p hp).1; omega) ⟨j9, Nat.lt_succ_self _, q.symm⟩)) (fun h15 => ?_)
    refine Ev.run [(.iconst 1, 1)] (pc' := 19) (L' := [some (.ref 3), some (.int (nI p)), some (.int (nI w))]) (S' := [.int (nI 1)]) rfl (by decide +kernel) rfl ?_
    refine Ev.goto (off := 4) (tgt := 23) (by decide +kernel) (by decide) ?_
    exact Ev.zret rfl (by decide +kernel) (Or.inr rfl) (⟨rfl, Or.inl ⟨rfl, h10⟩⟩)

set_option maxRecDepth 100000 in
set_option maxHeartbeats 4000000 in
theorem l_X5_pbo {sc : Nat × (Nat → Int32)} {d : Nat} (I : Nat → Nat → Int32) (J : Nat → Nat → Int64) (A : zA) (hC : CR 3 I A) (hW : WF A) (w v : Nat) (hw : w < 16) (hv : v < 16) : ∀ (μ : Nat) (p : Nat), aN A - p < μ → (p ≤ aN A) →  Ev sc (d + 3) 0 0 mX5_pairsWithBoth 5 [some (.ref 3), some (.int (nI w)), some (.int (nI v)), some (.int (nI (pbo A w v p))), some (.int (nI p))] [] (zz_SH, I, J) (zz_is (.int (nI (pbo A w v (aN A)))) (zz_SH, I, J)) := by
  intro μ
  induction μ with
  | zero => intro p hμ; exact absurd hμ (Nat.not_lt_zero _)
  | succ μ ih =>
    intro p hμ hp
    have w1 := hW.1.1
    have w2 := hW.1.2.1
    refine Ev.run [(.iload 4, 2), (.aload_n 0, 1), (.getfield 31, 3)] (pc' := 11) (L' := [some (.ref 3), some (.int (nI w)), some (.int (nI v)), some (.int (nI (pbo A w v p))), some (.int (nI p))]) (S' := [.int (I 3 10), .int (nI p)]) rfl (by decide +kernel) rfl ?_
    rw [show I 3 10 = nI (aN A) from hC.1.1.1]
    refine Ev.icmp_ge (off := 32) (tgt := 43) (by decide +kernel) (by decide) (fun h11 => ?_) (fun h11 => ?_)
    · have h11 : p ≥ (aN A) := zz_bG_t (by omega) (by omega) h11
      have hpN : aN A = p := by omega
      refine Ev.run [(.iload_n 3, 1)] (pc' := 44) (L' := [some (.ref 3), some (.int (nI w)), some (.int (nI v)), some (.int (nI (pbo A w v p))), some (.int (nI p))]) (S' := [.int (nI (pbo A w v p))]) rfl (by decide +kernel) rfl ?_
      exact Ev.iret rfl (by decide +kernel) (⟨by rw [hpN], rfl⟩)
    · have h11 : p < (aN A) := zz_bG_f (by omega) (by omega) h11
      refine Ev.run [(.aload_n 0, 1), (.iload 4, 2), (.iload_n 1, 1)] (pc' := 18) (L' := [some (.ref 3), some (.int (nI w)), some (.int (nI v)), some (.int (nI (pbo A w v p))), some (.int (nI p))]) (S' := [.int (nI w), .int (nI p), .ref 3]) rfl (by decide +kernel) rfl ?_
      refine Ev.callS0 mX5_inFirst [.ref 3, .int (nI p), .int (nI w)] [] _ rfl lk_RX5_35 (by decide +kernel) rfl (Nat.le_of_ble_eq_true rfl) (c_X5_inFirst I J A hW p w (by omega) hw (hC.1.2.1 p (by omega)).2.1) ?_
      rintro _ _ ⟨rfl, ⟨rfl, h18⟩ | ⟨rfl, h18⟩⟩
      · show Ev _ _ _ _ _ 21 [some (.ref 3), some (.int (nI w)), some (.int (nI v)), some (.int (nI (pbo A w v p))), some (.int (nI p))] [.int (nI 1)] (zz_SH, I, J) _
        refine Ev.if_eq (off := 16) (tgt := 37) (by decide +kernel) (by decide) (fun h21 => absurd h21 (by decide)) (fun h21 => ?_)
        refine Ev.run [(.aload_n 0, 1), (.iload 4, 2), (.iload_n 2, 1)] (pc' := 28) (L' := [some (.ref 3), some (.int (nI w)), some (.int (nI v)), some (.int (nI (pbo A w v p))), some (.int (nI p))]) (S' := [.int (nI v), .int (nI p), .ref 3]) rfl (by decide +kernel) rfl ?_
        refine Ev.callS0 mX5_inSecond [.ref 3, .int (nI p), .int (nI v)] [] _ rfl lk_RX5_41 (by decide +kernel) rfl (Nat.le_of_ble_eq_true rfl) (c_X5_inSecond I J A hW p v (by omega) hv (hC.1.2.1 p (by omega)).2.2) ?_
        rintro _ _ ⟨rfl, ⟨rfl, h28⟩ | ⟨rfl, h28⟩⟩
        · show Ev _ _ _ _ _ 31 [some (.ref 3), some (.int (nI w)), some (.int (nI v)), some (.int (nI (pbo A w v p))), some (.int (nI p))] [.int (nI 1)] (zz_SH, I, J) _
          refine Ev.if_eq (off := 6) (tgt := 37) (by decide +kernel) (by decide) (fun h31 => absurd h31 (by decide)) (fun h31 => ?_)
          refine Ev.run [(.iinc 3 1, 3)] (pc' := 37) (L' := [some (.ref 3), some (.int (nI w)), some (.int (nI v)), some (.int (nI (pbo A w v p) + 1)), some (.int (nI p))]) (S' := []) rfl (by decide +kernel) rfl ?_
          rw [nI_1 (pbo A w v p)]
          refine Ev.run [(.iinc 4 1, 3)] (pc' := 40) (L' := [some (.ref 3), some (.int (nI w)), some (.int (nI v)), some (.int (nI ((pbo A w v p) + 1))), some (.int (nI p + 1))]) (S' := []) rfl (by decide +kernel) rfl ?_
          rw [nI_1 p]
          refine Ev.goto (off := (-35)) (tgt := 5) (by decide +kernel) (by decide) ?_
          rw [show (pbo A w v p) + 1 = pbo A w v (p + 1) from by rw [pbo, if_pos ⟨h18, h28⟩] <;> rfl]
          exact ih (p + 1) (by omega) (by omega)
        · show Ev _ _ _ _ _ 31 [some (.ref 3), some (.int (nI w)), some (.int (nI v)), some (.int (nI (pbo A w v p))), some (.int (nI p))] [.int (nI 0)] (zz_SH, I, J) _
          refine Ev.if_eq (off := 6) (tgt := 37) (by decide +kernel) (by decide) (fun h31 => ?_) (fun h31 => absurd h31 (by decide))
          refine Ev.run [(.iinc 4 1, 3)] (pc' := 40) (L' := [some (.ref 3), some (.int (nI w)), some (.int (nI v)), some (.int (nI (pbo A w v p))), some (.int (nI p + 1))]) (S' := []) rfl (by decide +kernel) rfl ?_
          rw [nI_1 p]
          refine Ev.goto (off := (-35)) (tgt := 5) (by decide +kernel) (by decide) ?_
          rw [show pbo A w v p = pbo A w v (p + 1) from by rw [pbo, if_neg (fun q => h28 q.2)] <;> rfl]
          exact ih (p + 1) (by omega) (by omega)
      · show Ev _ _ _ _ _ 21 [some (.ref 3), some (.int (nI w)), some (.int (nI v)), some (.int (nI (pbo A w v p))), some (.int (nI p))] [.int (nI 0)] (zz_SH, I, J) _
        refine Ev.if_eq (off := 16) (tgt := 37) (by decide +kernel) (by decide) (fun h21 => ?_) (fun h21 => absurd h21 (by decide))
        refine Ev.run [(.iinc 4 1, 3)] (pc' := 40) (L' := [some (.ref 3), some (.int (nI w)), some (.int (nI v)), some (.int (nI (pbo A w v p))), some (.int (nI p + 1))]) (S' := []) rfl (by decide +kernel) rfl ?_
        rw [nI_1 p]
        refine Ev.goto (off := (-35)) (tgt := 5) (by decide +kernel) (by decide) ?_
        rw [show pbo A w v p = pbo A w v (p + 1) from by rw [pbo, if_neg (fun q => h18 q.1)] <;> rfl]
        exact ih (p + 1) (by omega) (by omega)

set_option maxRecDepth 100000 in
set_option maxHeartbeats 4000000 in
theorem c_X5_pairsWithBoth {sc : Nat × (Nat → Int32)} {d : Nat} (I : Nat → Nat → Int32) (J : Nat → Nat → Int64) (A : zA) (hC : CR 3 I A) (hW : WF A) (w v : Nat) (hw : w < 16) (hv : v < 16) : EvM sc (d + 3) 0 0 mX5_pairsWithBoth [.ref 3, .int (nI w), .int (nI v)] (zz_SH, I, J) (zz_is (.int (nI (pbo A w v (aN A)))) (zz_SH, I, J)) := by
  have w1 := hW.1.1
  have w2 := hW.1.2.1
  refine EvM.of (by decide) rfl (Nat.le_of_ble_eq_true rfl) ?_
  show Ev _ _ _ _ _ 0 [some (.ref 3), some (.int (nI w)), some (.int (nI v)), none, none] [] (zz_SH, I, J) _
  refine Ev.run [(.iconst 0, 1), (.istore_n 3, 1), (.iconst 0, 1), (.istore 4, 2)] (pc' := 5) (L' := [some (.ref 3), some (.int (nI w)), some (.int (nI v)), some (.int (nI 0)), some (.int (nI 0))]) (S' := []) rfl (by decide +kernel) rfl ?_
  exact l_X5_pbo I J A hC hW w v hw hv (aN A + 1) 0 (by omega) (by omega)

set_option maxRecDepth 100000 in
set_option maxHeartbeats 4000000 in
theorem l_X5_pei {sc : Nat × (Nat → Int32)} {d : Nat} (I : Nat → Nat → Int32) (J : Nat → Nat → Int64) (A : zA) (hC : CR 3 I A) (hW : WF A) (w v : Nat) (hw : w < 16) (hv : v < 16) : ∀ (μ : Nat) (p : Nat), aN A - p < μ → (p ≤ aN A) →  Ev sc (d + 3) 0 0 mX5_pairsWithEither 5 [some (.ref 3), some (.int (nI w)), some (.int (nI v)), some (.int (nI (pei A w v p))), some (.int (nI p))] [] (zz_SH, I, J) (zz_is (.int (nI (pei A w v (aN A)))) (zz_SH, I, J)) := by
  intro μ
  induction μ with
  | zero => intro p hμ; exact absurd hμ (Nat.not_lt_zero _)
  | succ μ ih =>
    intro p hμ hp
    have w1 := hW.1.1
    have w2 := hW.1.2.1
    refine Ev.run [(.iload 4, 2), (.aload_n 0, 1), (.getfield 31, 3)] (pc' := 11) (L' := [some (.ref 3), some (.int (nI w)), some (.int (nI v)), some (.int (nI (pei A w v p))), some (.int (nI p))]) (S' := [.int (I 3 10), .int (nI p)]) rfl (by decide +kernel) rfl ?_
    rw [show I 3 10 = nI (aN A) from hC.1.1.1]
    refine Ev.icmp_ge (off := 35) (tgt := 46) (by decide +kernel) (by decide) (fun h11 => ?_) (fun h11 => ?_)
    · have h11 : p ≥ (aN A) := zz_bG_t (by omega) (by omega) h11
      have hpN : aN A = p := by omega
      refine Ev.run [(.iload_n 3, 1)] (pc' := 47) (L' := [some (.ref 3), some (.int (nI w)), some (.int (nI v)), some (.int (nI (pei A w v p))), some (.int (nI p))]) (S' := [.int (nI (pei A w v p))]) rfl (by decide +kernel) rfl ?_
      exact Ev.iret rfl (by decide +kernel) (⟨by rw [hpN], rfl⟩)
    · have h11 : p < (aN A) := zz_bG_f (by omega) (by omega) h11
      refine Ev.run [(.aload_n 0, 1), (.iload 4, 2), (.iload_n 1, 1)] (pc' := 18) (L' := [some (.ref 3), some (.int (nI w)), some (.int (nI v)), some (.int (nI (pei A w v p))), some (.int (nI p))]) (S' := [.int (nI w), .int (nI p), .ref 3]) rfl (by decide +kernel) rfl ?_
      refine Ev.callS0 mX5_inFirst [.ref 3, .int (nI p), .int (nI w)] [] _ rfl lk_RX5_35 (by decide +kernel) rfl (Nat.le_of_ble_eq_true rfl) (c_X5_inFirst I J A hW p w (by omega) hw (hC.1.2.1 p (by omega)).2.1) ?_
      rintro _ _ ⟨rfl, ⟨rfl, h18⟩ | ⟨rfl, h18⟩⟩
      · show Ev _ _ _ _ _ 21 [some (.ref 3), some (.int (nI w)), some (.int (nI v)), some (.int (nI (pei A w v p))), some (.int (nI p))] [.int (nI 1)] (zz_SH, I, J) _
        refine Ev.if_eq (off := 6) (tgt := 27) (by decide +kernel) (by decide) (fun h21 => absurd h21 (by decide)) (fun h21 => ?_)
        refine Ev.run [(.iinc 3 1, 3)] (pc' := 27) (L' := [some (.ref 3), some (.int (nI w)), some (.int (nI v)), some (.int (nI (pei A w v p) + 1)), some (.int (nI p))]) (S' := []) rfl (by decide +kernel) rfl ?_
        rw [nI_1 (pei A w v p)]
        refine Ev.run [(.aload_n 0, 1), (.iload 4, 2), (.iload_n 2, 1)] (pc' := 31) (L' := [some (.ref 3), some (.int (nI w)), some (.int (nI v)), some (.int (nI ((pei A w v p) + 1))), some (.int (nI p))]) (S' := [.int (nI v), .int (nI p), .ref 3]) rfl (by decide +kernel) rfl ?_
        refine Ev.callS0 mX5_inSecond [.ref 3, .int (nI p), .int (nI v)] [] _ rfl lk_RX5_41 (by decide +kernel) rfl (Nat.le_of_ble_eq_true rfl) (c_X5_inSecond I J A hW p v (by omega) hv (hC.1.2.1 p (by omega)).2.2) ?_
        rintro _ _ ⟨rfl, ⟨rfl, h31⟩ | ⟨rfl, h31⟩⟩
        · show Ev _ _ _ _ _ 34 [some (.ref 3), some (.int (nI w)), some (.int (nI v)), some (.int (nI ((pei A w v p) + 1))), some (.int (nI p))] [.int (nI 1)] (zz_SH, I, J) _
          refine Ev.if_eq (off := 6) (tgt := 40) (by decide +kernel) (by decide) (fun h34 => absurd h34 (by decide)) (fun h34 => ?_)
          refine Ev.run [(.iinc 3 1, 3)] (pc' := 40) (L' := [some (.ref 3), some (.int (nI w)), some (.int (nI v)), some (.int (nI ((pei A w v p) + 1) + 1)), some (.int (nI p))]) (S' := []) rfl (by decide +kernel) rfl ?_
          rw [nI_1 ((pei A w v p) + 1)]
          refine Ev.run [(.iinc 4 1, 3)] (pc' := 43) (L' := [some (.ref 3), some (.int (nI w)), some (.int (nI v)), some (.int (nI (((pei A w v p) + 1) + 1))), some (.int (nI p + 1))]) (S' := []) rfl (by decide +kernel) rfl ?_
          rw [nI_1 p]
          refine Ev.goto (off := (-38)) (tgt := 5) (by decide +kernel) (by decide) ?_
          rw [show ((pei A w v p) + 1) + 1 = pei A w v (p + 1) from by rw [pei, if_pos h18, if_pos h31] <;> rfl]
          exact ih (p + 1) (by omega) (by omega)
        · show Ev _ _ _ _ _ 34 [some (.ref 3), some (.int (nI w)), some (.int (nI v)), some (.int (nI ((pei A w v p) + 1))), some (.int (nI p))] [.int (nI 0)] (zz_SH, I, J) _
          refine Ev.if_eq (off := 6) (tgt := 40) (by decide +kernel) (by decide) (fun h34 => ?_) (fun h34 => absurd h34 (by decide))
          refine Ev.run [(.iinc 4 1, 3)] (pc' := 43) (L' := [some (.ref 3), some (.int (nI w)), some (.int (nI v)), some (.int (nI ((pei A w v p) + 1))), some (.int (nI p + 1))]) (S' := []) rfl (by decide +kernel) rfl ?_
          rw [nI_1 p]
          refine Ev.goto (off := (-38)) (tgt := 5) (by decide +kernel) (by decide) ?_
          rw [show (pei A w v p) + 1 = pei A w v (p + 1) from by rw [pei, if_pos h18, if_neg h31] <;> rfl]
          exact ih (p + 1) (by omega) (by omega)
      · show Ev _ _ _ _ _ 21 [some (.ref 3), some (.int (nI w)), some (.int (nI v)), some (.int (nI (pei A w v p))), some (.int (nI p))] [.int (nI 0)] (zz_SH, I, J) _
        refine Ev.if_eq (off := 6) (tgt := 27) (by decide +kernel) (by decide) (fun h21 => ?_) (fun h21 => absurd h21 (by decide))
        refine Ev.run [(.aload_n 0, 1), (.iload 4, 2), (.iload_n 2, 1)] (pc' := 31) (L' := [some (.ref 3), some (.int (nI w)), some (.int (nI v)), some (.int (nI (pei A w v p))), some (.int (nI p))]) (S' := [.int (nI v), .int (nI p), .ref 3]) rfl (by decide +kernel) rfl ?_
        refine Ev.callS0 mX5_inSecond [.ref 3, .int (nI p), .int (nI v)] [] _ rfl lk_RX5_41 (by decide +kernel) rfl (Nat.le_of_ble_eq_true rfl) (c_X5_inSecond I J A hW p v (by omega) hv (hC.1.2.1 p (by omega)).2.2) ?_
        rintro _ _ ⟨rfl, ⟨rfl, h31⟩ | ⟨rfl, h31⟩⟩
        · show Ev _ _ _ _ _ 34 [some (.ref 3), some (.int (nI w)), some (.int (nI v)), some (.int (nI (pei A w v p))), some (.int (nI p))] [.int (nI 1)] (zz_SH, I, J) _
          refine Ev.if_eq (off := 6) (tgt := 40) (by decide +kernel) (by decide) (fun h34 => absurd h34 (by decide)) (fun h34 => ?_)
          refine Ev.run [(.iinc 3 1, 3)] (pc' := 40) (L' := [some (.ref 3), some (.int (nI w)), some (.int (nI v)), some (.int (nI (pei A w v p) + 1)), some (.int (nI p))]) (S' := []) rfl (by decide +kernel) rfl ?_
          rw [nI_1 (pei A w v p)]
          refine Ev.run [(.iinc 4 1, 3)] (pc' := 43) (L' := [some (.ref 3), some (.int (nI w)), some (.int (nI v)), some (.int (nI ((pei A w v p) + 1))), some (.int (nI p + 1))]) (S' := []) rfl (by decide +kernel) rfl ?_
          rw [nI_1 p]
          refine Ev.goto (off := (-38)) (tgt := 5) (by decide +kernel) (by decide) ?_
          rw [show (pei A w v p) + 1 = pei A w v (p + 1) from by rw [pei, if_neg h18, if_pos h31] <;> rfl]
          exact ih (p + 1) (by omega) (by omega)
        · show Ev _ _ _ _ _ 34 [some (.ref 3), some (.int (nI w)), some (.int (nI v)), some (.int (nI (pei A w v p))), some (.int (nI p))] [.int (nI 0)] (zz_SH, I, J) _
          refine Ev.if_eq (off := 6) (tgt := 40) (by decide +kernel) (by decide) (fun h34 => ?_) (fun h34 => absurd h34 (by decide))
          refine Ev.run [(.iinc 4 1, 3)] (pc' := 43) (L' := [some (.ref 3), some (.int (nI w)), some (.int (nI v)), some (.int (nI (pei A w v p))), some (.int (nI p + 1))]) (S' := []) rfl (by decide +kernel) rfl ?_
          rw [nI_1 p]
          refine Ev.goto (off := (-38)) (tgt := 5) (by decide +kernel) (by decide) ?_
          rw [show pei A w v p = pei A w v (p + 1) from by rw [pei, if_neg h18, if_neg h31] <;> rfl]
          exact ih (p + 1) (by omega) (by omega)

set_option maxRecDepth 100000 in
set_option maxHeartbeats 4000000 in
theorem c_X5_pairsWithEither {sc : Nat × (Nat → Int32)} {d : Nat} (I : Nat → Nat → Int32) (J : Nat → Nat → Int64) (A : zA) (hC : CR 3 I A) (hW : WF A) (w v : Nat) (hw : w < 16) (hv : v < 16) : EvM sc (d + 3) 0 0 mX5_pairsWithEither [.ref 3, .int (nI w), .int (nI v)] (zz_SH, I, J) (zz_is (.int (nI (pei A w v (aN A)))) (zz_SH, I, J)) := by
  have w1 := hW.1.1
  have w2 := hW.1.2.1
  refine EvM.of (by decide) rfl (Nat.le_of_ble_eq_true rfl) ?_
  show Ev _ _ _ _ _ 0 [some (.ref 3), some (.int (nI w)), some (.int (nI v)), none, none] [] (zz_SH, I, J) _
  refine Ev.run [(.iconst 0, 1), (.istore_n 3, 1), (.iconst 0, 1), (.istore 4, 2)] (pc' := 5) (L' := [some (.ref 3), some (.int (nI w)), some (.int (nI v)), some (.int (nI 0)), some (.int (nI 0))]) (S' := []) rfl (by decide +kernel) rfl ?_
  exact l_X5_pei I J A hC hW w v hw hv (aN A + 1) 0 (by omega) (by omega)

set_option maxRecDepth 100000 in
set_option maxHeartbeats 4000000 in
theorem l_X5_low {sc : Nat × (Nat → Int32)} {d : Nat} (I : Nat → Nat → Int32) (J : Nat → Nat → Int64) (a b : Nat) (ha : 0 < a) (ha2 : a < 1000) (hb2 : b < 1000) : ∀ (μ : Nat) (g : Nat), g < μ → (g ≤ a) → (∀ k, g < k → k ≤ a → ¬ (k ∣ a ∧ k ∣ b)) →  Ev sc (d) 0 0 mX5_lowered 2 [some (.int (nI a)), some (.int (nI b)), some (.int (nI g))] [] (zz_SH, I, J) (zz_is (.int (nI (a / Nat.gcd a b))) (zz_SH, I, J)) := by
  intro μ
  induction μ with
  | zero => intro g hμ; exact absurd hμ (Nat.not_lt_zero _)
  | succ μ ih =>
    intro g hμ hg hno
    have m1 : 0 < g → a % g < g := fun q => Nat.mod_lt a q
    have m2 : 0 < g → b % g < g := fun q => Nat.mod_lt b q
    refine Ev.run [(.iload_n 2, 1), (.iconst 1, 1)] (pc' := 4) (L' := [some (.int (nI a)), some (.int (nI b)), some (.int (nI g))]) (S' := [.int (nI 1), .int (nI g)]) rfl (by decide +kernel) rfl ?_
    refine Ev.icmp_le (off := 25) (tgt := 29) (by decide +kernel) (by decide) (fun h4 => ?_) (fun h4 => ?_)
    · have h4 : g ≤ 1 := zz_bG'_t (by omega) (by omega) h4
      have hg1 : Nat.gcd a b = 1 := by
        have q1 := Nat.gcd_dvd_left a b
        have q2 := Nat.le_of_dvd ha q1
        have q3 : 0 < Nat.gcd a b := Nat.gcd_pos_of_pos_left b ha
        by_cases q4 : g < Nat.gcd a b
        · exact absurd ⟨q1, Nat.gcd_dvd_right a b⟩ (hno _ q4 q2)
        · omega
      refine Ev.run [(.iload_n 0, 1)] (pc' := 30) (L' := [some (.int (nI a)), some (.int (nI b)), some (.int (nI g))]) (S' := [.int (nI a)]) rfl (by decide +kernel) rfl ?_
      exact Ev.iret rfl (by decide +kernel) (⟨by rw [hg1, Nat.div_one], rfl⟩)
    · have h4 : g > 1 := zz_bG'_f (by omega) (by omega) h4
      refine Ev.run [(.iload_n 0, 1), (.iload_n 2, 1)] (pc' := 9) (L' := [some (.int (nI a)), some (.int (nI b)), some (.int (nI g))]) (S' := [.int (nI g), .int (nI a)]) rfl (by decide +kernel) rfl ?_
      refine Ev.irem (by decide +kernel) (nI_ne0 (by omega) (by omega)) ?_
      rw [show nI a - nI a / nI g * nI g = nI (a % g) from pk_rem (by omega) (by omega) (by omega)]
      refine Ev.if_ne (off := 13) (tgt := 23) (by decide +kernel) (by decide) (fun h10 => ?_) (fun h10 => ?_)
      · have h10 : ¬ (a % g) = 0 := zz_bE_f (by omega) (by omega) h10
        have hz : ¬ (g ∣ a ∧ g ∣ b) := fun q => h10 (Nat.mod_eq_zero_of_dvd q.1)
        refine Ev.run [(.iinc 2 (-1), 3)] (pc' := 26) (L' := [some (.int (nI a)), some (.int (nI b)), some (.int (nI g + (-1)))]) (S' := []) rfl (by decide +kernel) rfl ?_
        rw [zz_dec (a := g) (by omega)]
        refine Ev.goto (off := (-24)) (tgt := 2) (by decide +kernel) (by decide) ?_
        refine ih (g - 1) (by omega) (by omega) (fun k h1 h2 => ?_)
        by_cases e : k = g
        · rw [e]; exact hz
        · exact hno k (by omega) h2
      · have h10 : (a % g) = 0 := zz_bE_t (by omega) (by omega) h10
        refine Ev.run [(.iload_n 1, 1), (.iload_n 2, 1)] (pc' := 15) (L' := [some (.int (nI a)), some (.int (nI b)), some (.int (nI g))]) (S' := [.int (nI g), .int (nI b)]) rfl (by decide +kernel) rfl ?_
        refine Ev.irem (by decide +kernel) (nI_ne0 (by omega) (by omega)) ?_
        rw [show nI b - nI b / nI g * nI g = nI (b % g) from pk_rem (by omega) (by omega) (by omega)]
        refine Ev.if_ne (off := 7) (tgt := 23) (by decide +kernel) (by decide) (fun h16 => ?_) (fun h16 => ?_)
        · have h16 : ¬ (b % g) = 0 := zz_bE_f (by omega) (by omega) h16
          have hz : ¬ (g ∣ a ∧ g ∣ b) := fun q => h16 (Nat.mod_eq_zero_of_dvd q.2)
          refine Ev.run [(.iinc 2 (-1), 3)] (pc' := 26) (L' := [some (.int (nI a)), some (.int (nI b)), some (.int (nI g + (-1)))]) (S' := []) rfl (by decide +kernel) rfl ?_
          rw [zz_dec (a := g) (by omega)]
          refine Ev.goto (off := (-24)) (tgt := 2) (by decide +kernel) (by decide) ?_
          refine ih (g - 1) (by omega) (by omega) (fun k h1 h2 => ?_)
          by_cases e : k = g
          · rw [e]; exact hz
          · exact hno k (by omega) h2
        · have h16 : (b % g) = 0 := zz_bE_t (by omega) (by omega) h16
          refine Ev.run [(.iload_n 0, 1), (.iload_n 2, 1)] (pc' := 21) (L' := [some (.int (nI a)), some (.int (nI b)), some (.int (nI g))]) (S' := [.int (nI g), .int (nI a)]) rfl (by decide +kernel) rfl ?_
          refine Ev.idiv (by decide +kernel) (nI_ne0 (by omega) (by omega)) ?_
          rw [show nI a / nI g = nI (a / g) from pk_div (by omega) (by omega) (by omega)]
          have hgg : Nat.gcd a b = g := by
            have q1 := Nat.gcd_dvd_left a b
            have q2 := Nat.le_of_dvd ha q1
            have q5 := Nat.le_of_dvd (Nat.gcd_pos_of_pos_left b ha) (Nat.dvd_gcd (Nat.dvd_of_mod_eq_zero h10) (Nat.dvd_of_mod_eq_zero h16))
            by_cases q4 : g < Nat.gcd a b
            · exact absurd ⟨q1, Nat.gcd_dvd_right a b⟩ (hno _ q4 q2)
            · omega
          exact Ev.iret rfl (by decide +kernel) (⟨by rw [hgg], rfl⟩)

set_option maxRecDepth 100000 in
set_option maxHeartbeats 4000000 in
theorem c_X5_lowered {sc : Nat × (Nat → Int32)} {d : Nat} (I : Nat → Nat → Int32) (J : Nat → Nat → Int64) (a b : Nat) (ha : 0 < a) (ha2 : a < 1000) (hb2 : b < 1000) : EvM sc (d) 0 0 mX5_lowered [.int (nI a), .int (nI b)] (zz_SH, I, J) (zz_is (.int (nI (a / Nat.gcd a b))) (zz_SH, I, J)) := by
  refine EvM.of (by decide) rfl (Nat.le_of_ble_eq_true rfl) ?_
  show Ev _ _ _ _ _ 0 [some (.int (nI a)), some (.int (nI b)), none] [] (zz_SH, I, J) _
  refine Ev.run [(.iload_n 0, 1), (.istore_n 2, 1)] (pc' := 2) (L' := [some (.int (nI a)), some (.int (nI b)), some (.int (nI a))]) (S' := []) rfl (by decide +kernel) rfl ?_
  exact l_X5_low I J a b ha ha2 hb2 (a + 1) a (by omega) (by omega) (fun k h1 h2 => absurd h1 (by omega))

set_option maxRecDepth 100000 in
set_option maxHeartbeats 4000000 in
theorem c_X6_goes_u {sc : Nat × (Nat → Int32)} {d : Nat} (I : Nat → Nat → Int32) (J : Nat → Nat → Int64) (x y z : Int32) (hxy : ¬ (zz_ix x 16 ∧ zz_ix y 16)) : EvM sc (d + 4) 0 0 mX6_goes [.ref 0, .int x, .int y, .int z] (zz_SH, I, J) (fun r σ => r = some (.long ((-1000000000000000001))) ∧ σ = (zz_SH, I, J)) := by
  refine EvM.of (by decide) rfl (Nat.le_of_ble_eq_true rfl) ?_
  show Ev _ _ _ _ _ 0 [some (.ref 0), some (.int x), some (.int y), some (.int z), none, none] [] (zz_SH, I, J) _
  refine Ev.run [(.iload_n 1, 1)] (pc' := 1) (L' := [some (.ref 0), some (.int x), some (.int y), some (.int z), none, none]) (S' := [.int x]) rfl (by decide +kernel) rfl ?_
  refine Ev.callS0 mX6_isWord [.int x] [] _ rfl lk_RX6_167 (by decide +kernel) rfl (Nat.le_of_ble_eq_true rfl) (c_X6_isWord I J x) ?_
  rintro _ _ ⟨rfl, ⟨rfl, h1⟩ | ⟨rfl, h1⟩⟩
  · show Ev _ _ _ _ _ 4 [some (.ref 0), some (.int x), some (.int y), some (.int z), none, none] [.int (nI 1)] (zz_SH, I, J) _
    refine Ev.if_eq (off := 10) (tgt := 14) (by decide +kernel) (by decide) (fun h4 => absurd h4 (by decide)) (fun h4 => ?_)
    refine Ev.run [(.iload_n 2, 1)] (pc' := 8) (L' := [some (.ref 0), some (.int x), some (.int y), some (.int z), none, none]) (S' := [.int y]) rfl (by decide +kernel) rfl ?_
    refine Ev.callS0 mX6_isWord [.int y] [] _ rfl lk_RX6_167 (by decide +kernel) rfl (Nat.le_of_ble_eq_true rfl) (c_X6_isWord I J y) ?_
    rintro _ _ ⟨rfl, ⟨rfl, h8⟩ | ⟨rfl, h8⟩⟩
    · exact absurd ⟨h1, h8⟩ hxy
    · show Ev _ _ _ _ _ 11 [some (.ref 0), some (.int x), some (.int y), some (.int z), none, none] [.int (nI 0)] (zz_SH, I, J) _
      refine Ev.if_ne (off := 7) (tgt := 18) (by decide +kernel) (by decide) (fun h11 => absurd h11 (by decide)) (fun h11 => ?_)
      refine Ev.ldc2 (idx := 179) (v := (-1000000000000000001)) (by decide +kernel) (by decide +kernel) ?_
      exact Ev.lret rfl (by decide +kernel) (⟨rfl, rfl⟩)
  · show Ev _ _ _ _ _ 4 [some (.ref 0), some (.int x), some (.int y), some (.int z), none, none] [.int (nI 0)] (zz_SH, I, J) _
    refine Ev.if_eq (off := 10) (tgt := 14) (by decide +kernel) (by decide) (fun h4 => ?_) (fun h4 => absurd h4 (by decide))
    refine Ev.ldc2 (idx := 179) (v := (-1000000000000000001)) (by decide +kernel) (by decide +kernel) ?_
    exact Ev.lret rfl (by decide +kernel) (⟨rfl, rfl⟩)

set_option maxRecDepth 100000 in
set_option maxHeartbeats 4000000 in
theorem c_X6_goes_o {sc : Nat × (Nat → Int32)} {d : Nat} (I : Nat → Nat → Int32) (J : Nat → Nat → Int64) (w v : Nat) (hw : w < 16) (hv : v < 16) (z : Int32) (hz : ¬ zz_ix z 2) : EvM sc (d + 4) 0 0 mX6_goes [.ref 0, .int (nI w), .int (nI v), .int z] (zz_SH, I, J) (fun r σ => r = some (.long ((-1000000000000000002))) ∧ σ = (zz_SH, I, J)) := by
  refine EvM.of (by decide) rfl (Nat.le_of_ble_eq_true rfl) ?_
  show Ev _ _ _ _ _ 0 [some (.ref 0), some (.int (nI w)), some (.int (nI v)), some (.int z), none, none] [] (zz_SH, I, J) _
  refine Ev.run [(.iload_n 1, 1)] (pc' := 1) (L' := [some (.ref 0), some (.int (nI w)), some (.int (nI v)), some (.int z), none, none]) (S' := [.int (nI w)]) rfl (by decide +kernel) rfl ?_
  refine Ev.callS0 mX6_isWord [.int (nI w)] [] _ rfl lk_RX6_167 (by decide +kernel) rfl (Nat.le_of_ble_eq_true rfl) (c_X6_isWord I J (nI w)) ?_
  rintro _ _ ⟨rfl, ⟨rfl, h1⟩ | ⟨rfl, h1⟩⟩
  · show Ev _ _ _ _ _ 4 [some (.ref 0), some (.int (nI w)), some (.int (nI v)), some (.int z), none, none] [.int (nI 1)] (zz_SH, I, J) _
    refine Ev.if_eq (off := 10) (tgt := 14) (by decide +kernel) (by decide) (fun h4 => absurd h4 (by decide)) (fun h4 => ?_)
    refine Ev.run [(.iload_n 2, 1)] (pc' := 8) (L' := [some (.ref 0), some (.int (nI w)), some (.int (nI v)), some (.int z), none, none]) (S' := [.int (nI v)]) rfl (by decide +kernel) rfl ?_
    refine Ev.callS0 mX6_isWord [.int (nI v)] [] _ rfl lk_RX6_167 (by decide +kernel) rfl (Nat.le_of_ble_eq_true rfl) (c_X6_isWord I J (nI v)) ?_
    rintro _ _ ⟨rfl, ⟨rfl, h8⟩ | ⟨rfl, h8⟩⟩
    · show Ev _ _ _ _ _ 11 [some (.ref 0), some (.int (nI w)), some (.int (nI v)), some (.int z), none, none] [.int (nI 1)] (zz_SH, I, J) _
      refine Ev.if_ne (off := 7) (tgt := 18) (by decide +kernel) (by decide) (fun h11 => ?_) (fun h11 => absurd h11 (by decide))
      refine Ev.run [(.iload_n 3, 1)] (pc' := 19) (L' := [some (.ref 0), some (.int (nI w)), some (.int (nI v)), some (.int z), none, none]) (S' := [.int z]) rfl (by decide +kernel) rfl ?_
      refine Ev.if_eq (off := 12) (tgt := 31) (by decide +kernel) (by decide) (fun h19 => ?_) (fun h19 => ?_)
      · exact absurd ⟨0, by decide, h19⟩ hz
      · refine Ev.run [(.iload_n 3, 1), (.iconst 1, 1)] (pc' := 24) (L' := [some (.ref 0), some (.int (nI w)), some (.int (nI v)), some (.int z), none, none]) (S' := [.int (nI 1), .int z]) rfl (by decide +kernel) rfl ?_
        refine Ev.icmp_eq (off := 7) (tgt := 31) (by decide +kernel) (by decide) (fun h24 => ?_) (fun h24 => ?_)
        · exact absurd ⟨1, by decide, h24⟩ hz
        · refine Ev.ldc2 (idx := 181) (v := (-1000000000000000002)) (by decide +kernel) (by decide +kernel) ?_
          exact Ev.lret rfl (by decide +kernel) (⟨rfl, rfl⟩)
    · exact absurd ⟨v, hv, rfl⟩ h8
  · exact absurd ⟨w, hw, rfl⟩ h1

set_option maxRecDepth 100000 in
set_option maxHeartbeats 4000000 in
theorem c_X6_goes_0 {sc : Nat × (Nat → Int32)} {d : Nat} (I : Nat → Nat → Int32) (J : Nat → Nat → Int64) (A : zA) (hC : CR 3 I A) (hW : WF A) (w v : Nat) (hw : w < 16) (hv : v < 16) : EvM sc (d + 4) 0 0 mX6_goes [.ref 0, .int (nI w), .int (nI v), .int (nI 0)] (zz_SH, I, J) (fun r σ => r = some (.long (Int32.toInt64 (nI (gsu A w v)))) ∧ σ = (zz_SH, I, J)) := by
  have w1 := hW.1.1
  have w2 := hW.1.2.1
  have c8 := pbo_le A w v (aN A)
  have c9 := pei_le A w v (aN A)
  have c7 := pbo_pei A w v (aN A)
  refine EvM.of (by decide) rfl (Nat.le_of_ble_eq_true rfl) ?_
  show Ev _ _ _ _ _ 0 [some (.ref 0), some (.int (nI w)), some (.int (nI v)), some (.int (nI 0)), none, none] [] (zz_SH, I, J) _
  refine Ev.run [(.iload_n 1, 1)] (pc' := 1) (L' := [some (.ref 0), some (.int (nI w)), some (.int (nI v)), some (.int (nI 0)), none, none]) (S' := [.int (nI w)]) rfl (by decide +kernel) rfl ?_
  refine Ev.callS0 mX6_isWord [.int (nI w)] [] _ rfl lk_RX6_167 (by decide +kernel) rfl (Nat.le_of_ble_eq_true rfl) (c_X6_isWord I J (nI w)) ?_
  rintro _ _ ⟨rfl, ⟨rfl, h1⟩ | ⟨rfl, h1⟩⟩
  · show Ev _ _ _ _ _ 4 [some (.ref 0), some (.int (nI w)), some (.int (nI v)), some (.int (nI 0)), none, none] [.int (nI 1)] (zz_SH, I, J) _
    refine Ev.if_eq (off := 10) (tgt := 14) (by decide +kernel) (by decide) (fun h4 => absurd h4 (by decide)) (fun h4 => ?_)
    refine Ev.run [(.iload_n 2, 1)] (pc' := 8) (L' := [some (.ref 0), some (.int (nI w)), some (.int (nI v)), some (.int (nI 0)), none, none]) (S' := [.int (nI v)]) rfl (by decide +kernel) rfl ?_
    refine Ev.callS0 mX6_isWord [.int (nI v)] [] _ rfl lk_RX6_167 (by decide +kernel) rfl (Nat.le_of_ble_eq_true rfl) (c_X6_isWord I J (nI v)) ?_
    rintro _ _ ⟨rfl, ⟨rfl, h8⟩ | ⟨rfl, h8⟩⟩
    · show Ev _ _ _ _ _ 11 [some (.ref 0), some (.int (nI w)), some (.int (nI v)), some (.int (nI 0)), none, none] [.int (nI 1)] (zz_SH, I, J) _
      refine Ev.if_ne (off := 7) (tgt := 18) (by decide +kernel) (by decide) (fun h11 => ?_) (fun h11 => absurd h11 (by decide))
      refine Ev.run [(.iload_n 3, 1)] (pc' := 19) (L' := [some (.ref 0), some (.int (nI w)), some (.int (nI v)), some (.int (nI 0)), none, none]) (S' := [.int (nI 0)]) rfl (by decide +kernel) rfl ?_
      refine Ev.if_eq (off := 12) (tgt := 31) (by decide +kernel) (by decide) (fun h19 => ?_) (fun h19 => absurd h19 (by decide))
      refine Ev.run [(.iconst 2, 1), (.aload_n 0, 1), (.getfield 21, 3), (.iload_n 1, 1), (.iload_n 2, 1)] (pc' := 38) (L' := [some (.ref 0), some (.int (nI w)), some (.int (nI v)), some (.int (nI 0)), none, none]) (S' := [.int (nI v), .int (nI w), .ref 3, .int (nI 2)]) rfl (by decide +kernel) rfl ?_
      refine Ev.callS0 mX5_pairsWithBoth [.ref 3, .int (nI w), .int (nI v)] [.int (nI 2)] _ rfl lk_RX6_183 (by decide +kernel) rfl (Nat.le_of_ble_eq_true rfl) (c_X5_pairsWithBoth I J A hC hW w v hw hv) ?_
      rintro _ _ ⟨rfl, rfl⟩
      show Ev _ _ _ _ _ 41 [some (.ref 0), some (.int (nI w)), some (.int (nI v)), some (.int (nI 0)), none, none] [.int (nI (pbo A w v (aN A))), .int (nI 2)] (zz_SH, I, J) _
      refine Ev.run [(.imul, 1)] (pc' := 42) (L' := [some (.ref 0), some (.int (nI w)), some (.int (nI v)), some (.int (nI 0)), none, none]) (S' := [.int (nI 2 * nI (pbo A w v (aN A)))]) rfl (by decide +kernel) rfl ?_
      rw [pk_mul 2 (pbo A w v (aN A))]
      refine Ev.run [(.istore 4, 2), (.iload 4, 2)] (pc' := 46) (L' := [some (.ref 0), some (.int (nI w)), some (.int (nI v)), some (.int (nI 0)), some (.int (nI (2 * (pbo A w v (aN A))))), none]) (S' := [.int (nI (2 * (pbo A w v (aN A))))]) rfl (by decide +kernel) rfl ?_
      refine Ev.if_ne (off := 13) (tgt := 59) (by decide +kernel) (by decide) (fun h46 => ?_) (fun h46 => ?_)
      · have h46 : ¬ (2 * (pbo A w v (aN A))) = 0 := zz_bE_f (by omega) (by omega) h46
        refine Ev.run [(.aload_n 0, 1), (.getfield 21, 3), (.iload_n 1, 1), (.iload_n 2, 1)] (pc' := 65) (L' := [some (.ref 0), some (.int (nI w)), some (.int (nI v)), some (.int (nI 0)), some (.int (nI (2 * (pbo A w v (aN A))))), none]) (S' := [.int (nI v), .int (nI w), .ref 3]) rfl (by decide +kernel) rfl ?_
        refine Ev.callS0 mX5_pairsWithEither [.ref 3, .int (nI w), .int (nI v)] [] _ rfl lk_RX6_187 (by decide +kernel) rfl (Nat.le_of_ble_eq_true rfl) (c_X5_pairsWithEither I J A hC hW w v hw hv) ?_
        rintro _ _ ⟨rfl, rfl⟩
        show Ev _ _ _ _ _ 68 [some (.ref 0), some (.int (nI w)), some (.int (nI v)), some (.int (nI 0)), some (.int (nI (2 * (pbo A w v (aN A))))), none] [.int (nI (pei A w v (aN A)))] (zz_SH, I, J) _
        refine Ev.run [(.istore 5, 2), (.iload_n 3, 1)] (pc' := 71) (L' := [some (.ref 0), some (.int (nI w)), some (.int (nI v)), some (.int (nI 0)), some (.int (nI (2 * (pbo A w v (aN A))))), some (.int (nI (pei A w v (aN A))))]) (S' := [.int (nI 0)]) rfl (by decide +kernel) rfl ?_
        refine Ev.if_ne (off := 14) (tgt := 85) (by decide +kernel) (by decide) (fun h71 => absurd h71 (by decide)) (fun h71 => ?_)
        refine Ev.run [(.iload 4, 2), (.iload 5, 2)] (pc' := 78) (L' := [some (.ref 0), some (.int (nI w)), some (.int (nI v)), some (.int (nI 0)), some (.int (nI (2 * (pbo A w v (aN A))))), some (.int (nI (pei A w v (aN A))))]) (S' := [.int (nI (pei A w v (aN A))), .int (nI (2 * (pbo A w v (aN A))))]) rfl (by decide +kernel) rfl ?_
        refine Ev.callS0 mX5_lowered [.int (nI (2 * (pbo A w v (aN A)))), .int (nI (pei A w v (aN A)))] [] _ rfl lk_RX6_190 (by decide +kernel) rfl (Nat.le_of_ble_eq_true rfl) (c_X5_lowered I J (2 * pbo A w v (aN A)) (pei A w v (aN A)) (by omega) (by omega) (by omega)) ?_
        rintro _ _ ⟨rfl, rfl⟩
        show Ev _ _ _ _ _ 81 [some (.ref 0), some (.int (nI w)), some (.int (nI v)), some (.int (nI 0)), some (.int (nI (2 * (pbo A w v (aN A))))), some (.int (nI (pei A w v (aN A))))] [.int (nI ((2 * pbo A w v (aN A)) / Nat.gcd (2 * pbo A w v (aN A)) (pei A w v (aN A))))] (zz_SH, I, J) _
        refine Ev.run [(.i2l, 1)] (pc' := 82) (L' := [some (.ref 0), some (.int (nI w)), some (.int (nI v)), some (.int (nI 0)), some (.int (nI (2 * (pbo A w v (aN A))))), some (.int (nI (pei A w v (aN A))))]) (S' := [.long (Int32.toInt64 (nI ((2 * pbo A w v (aN A)) / Nat.gcd (2 * pbo A w v (aN A)) (pei A w v (aN A)))))]) rfl (by decide +kernel) rfl ?_
        refine Ev.goto (off := 11) (tgt := 93) (by decide +kernel) (by decide) ?_
        exact Ev.lret rfl (by decide +kernel) (⟨by rw [gsu, if_neg (by omega)], rfl⟩)
      · have h46 : (2 * (pbo A w v (aN A))) = 0 := zz_bE_t (by omega) (by omega) h46
        refine Ev.run [(.iload_n 3, 1)] (pc' := 50) (L' := [some (.ref 0), some (.int (nI w)), some (.int (nI v)), some (.int (nI 0)), some (.int (nI (2 * (pbo A w v (aN A))))), none]) (S' := [.int (nI 0)]) rfl (by decide +kernel) rfl ?_
        refine Ev.if_ne (off := 7) (tgt := 57) (by decide +kernel) (by decide) (fun h50 => absurd h50 (by decide)) (fun h50 => ?_)
        refine Ev.run [(.lconst 0, 1)] (pc' := 54) (L' := [some (.ref 0), some (.int (nI w)), some (.int (nI v)), some (.int (nI 0)), some (.int (nI (2 * (pbo A w v (aN A))))), none]) (S' := [.long 0]) rfl (by decide +kernel) rfl ?_
        refine Ev.goto (off := 4) (tgt := 58) (by decide +kernel) (by decide) ?_
        exact Ev.lret rfl (by decide +kernel) (⟨by rw [gsu]; split; rfl; rw [h46, Nat.zero_div]; rfl, rfl⟩)
    · exact absurd ⟨v, hv, rfl⟩ h8
  · exact absurd ⟨w, hw, rfl⟩ h1

set_option maxRecDepth 100000 in
set_option maxHeartbeats 4000000 in
theorem c_X6_goes_1 {sc : Nat × (Nat → Int32)} {d : Nat} (I : Nat → Nat → Int32) (J : Nat → Nat → Int64) (A : zA) (hC : CR 3 I A) (hW : WF A) (w v : Nat) (hw : w < 16) (hv : v < 16) : EvM sc (d + 4) 0 0 mX6_goes [.ref 0, .int (nI w), .int (nI v), .int (nI 1)] (zz_SH, I, J) (fun r σ => r = some (.long (Int32.toInt64 (nI (gsl A w v)))) ∧ σ = (zz_SH, I, J)) := by
  have w1 := hW.1.1
  have w2 := hW.1.2.1
  have c8 := pbo_le A w v (aN A)
  have c9 := pei_le A w v (aN A)
  have c7 := pbo_pei A w v (aN A)
  refine EvM.of (by decide) rfl (Nat.le_of_ble_eq_true rfl) ?_
  show Ev _ _ _ _ _ 0 [some (.ref 0), some (.int (nI w)), some (.int (nI v)), some (.int (nI 1)), none, none] [] (zz_SH, I, J) _
  refine Ev.run [(.iload_n 1, 1)] (pc' := 1) (L' := [some (.ref 0), some (.int (nI w)), some (.int (nI v)), some (.int (nI 1)), none, none]) (S' := [.int (nI w)]) rfl (by decide +kernel) rfl ?_
  refine Ev.callS0 mX6_isWord [.int (nI w)] [] _ rfl lk_RX6_167 (by decide +kernel) rfl (Nat.le_of_ble_eq_true rfl) (c_X6_isWord I J (nI w)) ?_
  rintro _ _ ⟨rfl, ⟨rfl, h1⟩ | ⟨rfl, h1⟩⟩
  · show Ev _ _ _ _ _ 4 [some (.ref 0), some (.int (nI w)), some (.int (nI v)), some (.int (nI 1)), none, none] [.int (nI 1)] (zz_SH, I, J) _
    refine Ev.if_eq (off := 10) (tgt := 14) (by decide +kernel) (by decide) (fun h4 => absurd h4 (by decide)) (fun h4 => ?_)
    refine Ev.run [(.iload_n 2, 1)] (pc' := 8) (L' := [some (.ref 0), some (.int (nI w)), some (.int (nI v)), some (.int (nI 1)), none, none]) (S' := [.int (nI v)]) rfl (by decide +kernel) rfl ?_
    refine Ev.callS0 mX6_isWord [.int (nI v)] [] _ rfl lk_RX6_167 (by decide +kernel) rfl (Nat.le_of_ble_eq_true rfl) (c_X6_isWord I J (nI v)) ?_
    rintro _ _ ⟨rfl, ⟨rfl, h8⟩ | ⟨rfl, h8⟩⟩
    · show Ev _ _ _ _ _ 11 [some (.ref 0), some (.int (nI w)), some (.int (nI v)), some (.int (nI 1)), none, none] [.int (nI 1)] (zz_SH, I, J) _
      refine Ev.if_ne (off := 7) (tgt := 18) (by decide +kernel) (by decide) (fun h11 => ?_) (fun h11 => absurd h11 (by decide))
      refine Ev.run [(.iload_n 3, 1)] (pc' := 19) (L' := [some (.ref 0), some (.int (nI w)), some (.int (nI v)), some (.int (nI 1)), none, none]) (S' := [.int (nI 1)]) rfl (by decide +kernel) rfl ?_
      refine Ev.if_eq (off := 12) (tgt := 31) (by decide +kernel) (by decide) (fun h19 => absurd h19 (by decide)) (fun h19 => ?_)
      refine Ev.run [(.iload_n 3, 1), (.iconst 1, 1)] (pc' := 24) (L' := [some (.ref 0), some (.int (nI w)), some (.int (nI v)), some (.int (nI 1)), none, none]) (S' := [.int (nI 1), .int (nI 1)]) rfl (by decide +kernel) rfl ?_
      refine Ev.icmp_eq (off := 7) (tgt := 31) (by decide +kernel) (by decide) (fun h24 => ?_) (fun h24 => absurd h24 (by decide))
      refine Ev.run [(.iconst 2, 1), (.aload_n 0, 1), (.getfield 21, 3), (.iload_n 1, 1), (.iload_n 2, 1)] (pc' := 38) (L' := [some (.ref 0), some (.int (nI w)), some (.int (nI v)), some (.int (nI 1)), none, none]) (S' := [.int (nI v), .int (nI w), .ref 3, .int (nI 2)]) rfl (by decide +kernel) rfl ?_
      refine Ev.callS0 mX5_pairsWithBoth [.ref 3, .int (nI w), .int (nI v)] [.int (nI 2)] _ rfl lk_RX6_183 (by decide +kernel) rfl (Nat.le_of_ble_eq_true rfl) (c_X5_pairsWithBoth I J A hC hW w v hw hv) ?_
      rintro _ _ ⟨rfl, rfl⟩
      show Ev _ _ _ _ _ 41 [some (.ref 0), some (.int (nI w)), some (.int (nI v)), some (.int (nI 1)), none, none] [.int (nI (pbo A w v (aN A))), .int (nI 2)] (zz_SH, I, J) _
      refine Ev.run [(.imul, 1)] (pc' := 42) (L' := [some (.ref 0), some (.int (nI w)), some (.int (nI v)), some (.int (nI 1)), none, none]) (S' := [.int (nI 2 * nI (pbo A w v (aN A)))]) rfl (by decide +kernel) rfl ?_
      rw [pk_mul 2 (pbo A w v (aN A))]
      refine Ev.run [(.istore 4, 2), (.iload 4, 2)] (pc' := 46) (L' := [some (.ref 0), some (.int (nI w)), some (.int (nI v)), some (.int (nI 1)), some (.int (nI (2 * (pbo A w v (aN A))))), none]) (S' := [.int (nI (2 * (pbo A w v (aN A))))]) rfl (by decide +kernel) rfl ?_
      refine Ev.if_ne (off := 13) (tgt := 59) (by decide +kernel) (by decide) (fun h46 => ?_) (fun h46 => ?_)
      · have h46 : ¬ (2 * (pbo A w v (aN A))) = 0 := zz_bE_f (by omega) (by omega) h46
        refine Ev.run [(.aload_n 0, 1), (.getfield 21, 3), (.iload_n 1, 1), (.iload_n 2, 1)] (pc' := 65) (L' := [some (.ref 0), some (.int (nI w)), some (.int (nI v)), some (.int (nI 1)), some (.int (nI (2 * (pbo A w v (aN A))))), none]) (S' := [.int (nI v), .int (nI w), .ref 3]) rfl (by decide +kernel) rfl ?_
        refine Ev.callS0 mX5_pairsWithEither [.ref 3, .int (nI w), .int (nI v)] [] _ rfl lk_RX6_187 (by decide +kernel) rfl (Nat.le_of_ble_eq_true rfl) (c_X5_pairsWithEither I J A hC hW w v hw hv) ?_
        rintro _ _ ⟨rfl, rfl⟩
        show Ev _ _ _ _ _ 68 [some (.ref 0), some (.int (nI w)), some (.int (nI v)), some (.int (nI 1)), some (.int (nI (2 * (pbo A w v (aN A))))), none] [.int (nI (pei A w v (aN A)))] (zz_SH, I, J) _
        refine Ev.run [(.istore 5, 2), (.iload_n 3, 1)] (pc' := 71) (L' := [some (.ref 0), some (.int (nI w)), some (.int (nI v)), some (.int (nI 1)), some (.int (nI (2 * (pbo A w v (aN A))))), some (.int (nI (pei A w v (aN A))))]) (S' := [.int (nI 1)]) rfl (by decide +kernel) rfl ?_
        refine Ev.if_ne (off := 14) (tgt := 85) (by decide +kernel) (by decide) (fun h71 => ?_) (fun h71 => absurd h71 (by decide))
        refine Ev.run [(.iload 5, 2), (.iload 4, 2)] (pc' := 89) (L' := [some (.ref 0), some (.int (nI w)), some (.int (nI v)), some (.int (nI 1)), some (.int (nI (2 * (pbo A w v (aN A))))), some (.int (nI (pei A w v (aN A))))]) (S' := [.int (nI (2 * (pbo A w v (aN A)))), .int (nI (pei A w v (aN A)))]) rfl (by decide +kernel) rfl ?_
        refine Ev.callS0 mX5_lowered [.int (nI (pei A w v (aN A))), .int (nI (2 * (pbo A w v (aN A))))] [] _ rfl lk_RX6_190 (by decide +kernel) rfl (Nat.le_of_ble_eq_true rfl) (c_X5_lowered I J (pei A w v (aN A)) (2 * pbo A w v (aN A)) (by omega) (by omega) (by omega)) ?_
        rintro _ _ ⟨rfl, rfl⟩
        show Ev _ _ _ _ _ 92 [some (.ref 0), some (.int (nI w)), some (.int (nI v)), some (.int (nI 1)), some (.int (nI (2 * (pbo A w v (aN A))))), some (.int (nI (pei A w v (aN A))))] [.int (nI ((pei A w v (aN A)) / Nat.gcd (pei A w v (aN A)) (2 * pbo A w v (aN A))))] (zz_SH, I, J) _
        refine Ev.run [(.i2l, 1)] (pc' := 93) (L' := [some (.ref 0), some (.int (nI w)), some (.int (nI v)), some (.int (nI 1)), some (.int (nI (2 * (pbo A w v (aN A))))), some (.int (nI (pei A w v (aN A))))]) (S' := [.long (Int32.toInt64 (nI ((pei A w v (aN A)) / Nat.gcd (pei A w v (aN A)) (2 * pbo A w v (aN A)))))]) rfl (by decide +kernel) rfl ?_
        exact Ev.lret rfl (by decide +kernel) (⟨by rw [gsl, if_neg (by omega), Nat.gcd_comm], rfl⟩)
      · have h46 : (2 * (pbo A w v (aN A))) = 0 := zz_bE_t (by omega) (by omega) h46
        refine Ev.run [(.iload_n 3, 1)] (pc' := 50) (L' := [some (.ref 0), some (.int (nI w)), some (.int (nI v)), some (.int (nI 1)), some (.int (nI (2 * (pbo A w v (aN A))))), none]) (S' := [.int (nI 1)]) rfl (by decide +kernel) rfl ?_
        refine Ev.if_ne (off := 7) (tgt := 57) (by decide +kernel) (by decide) (fun h50 => ?_) (fun h50 => absurd h50 (by decide))
        refine Ev.run [(.lconst 1, 1)] (pc' := 58) (L' := [some (.ref 0), some (.int (nI w)), some (.int (nI v)), some (.int (nI 1)), some (.int (nI (2 * (pbo A w v (aN A))))), none]) (S' := [.long 1]) rfl (by decide +kernel) rfl ?_
        exact Ev.lret rfl (by decide +kernel) (⟨by rw [gsl]; split; rfl; next q => rw [h46, Nat.gcd_zero_left, Nat.div_self (by omega)]; rfl, rfl⟩)
    · exact absurd ⟨v, hv, rfl⟩ h8
  · exact absurd ⟨w, hw, rfl⟩ h1

theorem lrn_y {A : zA} {w v : Nat} (h : pbo A w v (aN A) * ll (lrn A w v) > lu (lrn A w v) * pei A w v (aN A)) : lrn A w (v + 1) = some (v, pbo A w v (aN A), pei A w v (aN A)) := by
  rw [lrn, if_pos]
  refine ⟨?_, h⟩
  have c7 := pbo_pei A w v (aN A)
  rcases Nat.eq_zero_or_pos (pei A w v (aN A)) with q | q
  · rw [show pbo A w v (aN A) = 0 by omega, Nat.zero_mul] at h
    exact absurd h (Nat.not_lt_zero _)
  · exact q
theorem lrn_n {A : zA} {w v : Nat} (h : pbo A w v (aN A) * ll (lrn A w v) ≤ lu (lrn A w v) * pei A w v (aN A)) : lrn A w (v + 1) = lrn A w v := by
  rw [lrn, if_neg]
  intro q
  have := q.2
  omega

set_option maxRecDepth 100000 in
set_option maxHeartbeats 4000000 in
theorem l_X5_gm {sc : Nat × (Nat → Int32)} {d : Nat} (I : Nat → Nat → Int32) (J : Nat → Nat → Int64) (A : zA) (hC : CR 3 I A) (hW : WF A) (w : Nat) (hw : w < 16) : ∀ (μ : Nat) (v : Nat), 16 - v < μ → (v ≤ 16) →  Ev sc (d + 4) 0 0 mX5_goesMost 11 [some (.ref 3), some (.int (nI w)), some (.int (lf (lrn A w v))), some (.int (nI (lu (lrn A w v)))), some (.int (nI (ll (lrn A w v)))), some (.int (nI v)), none, none] [] (zz_SH, I, J) (zz_is (.int (lf (lrn A w 16))) (zz_SH, I, J)) := by
  intro μ
  induction μ with
  | zero => intro v hμ; exact absurd hμ (Nat.not_lt_zero _)
  | succ μ ih =>
    intro v hμ hv
    have w1 := hW.1.1
    have w2 := hW.1.2.1
    have c8 := pbo_le A w v (aN A)
    have c9 := pei_le A w v (aN A)
    have c7 := pbo_pei A w v (aN A)
    have l0 := lrn_b w1 w v
    refine Ev.run [(.iload 5, 2), (.bipush 16, 2)] (pc' := 15) (L' := [some (.ref 3), some (.int (nI w)), some (.int (lf (lrn A w v))), some (.int (nI (lu (lrn A w v)))), some (.int (nI (ll (lrn A w v)))), some (.int (nI v)), none, none]) (S' := [.int (nI 16), .int (nI v)]) rfl (by decide +kernel) rfl ?_
    refine Ev.icmp_ge (off := 49) (tgt := 64) (by decide +kernel) (by decide) (fun h15 => ?_) (fun h15 => ?_)
    · have h15 : v ≥ 16 := zz_bG_t (by omega) (by omega) h15
      have hv16 : v = 16 := by omega
      refine Ev.run [(.iload_n 2, 1)] (pc' := 65) (L' := [some (.ref 3), some (.int (nI w)), some (.int (lf (lrn A w v))), some (.int (nI (lu (lrn A w v)))), some (.int (nI (ll (lrn A w v)))), some (.int (nI v)), none, none]) (S' := [.int (lf (lrn A w v))]) rfl (by decide +kernel) rfl ?_
      exact Ev.iret rfl (by decide +kernel) (⟨by rw [hv16], rfl⟩)
    · have h15 : v < 16 := zz_bG_f (by omega) (by omega) h15
      refine Ev.run [(.aload_n 0, 1), (.iload_n 1, 1), (.iload 5, 2)] (pc' := 22) (L' := [some (.ref 3), some (.int (nI w)), some (.int (lf (lrn A w v))), some (.int (nI (lu (lrn A w v)))), some (.int (nI (ll (lrn A w v)))), some (.int (nI v)), none, none]) (S' := [.int (nI v), .int (nI w), .ref 3]) rfl (by decide +kernel) rfl ?_
      refine Ev.callS0 mX5_pairsWithBoth [.ref 3, .int (nI w), .int (nI v)] [] _ rfl lk_RX5_44 (by decide +kernel) rfl (Nat.le_of_ble_eq_true rfl) (c_X5_pairsWithBoth I J A hC hW w v hw (by omega)) ?_
      rintro _ _ ⟨rfl, rfl⟩
      show Ev _ _ _ _ _ 25 [some (.ref 3), some (.int (nI w)), some (.int (lf (lrn A w v))), some (.int (nI (lu (lrn A w v)))), some (.int (nI (ll (lrn A w v)))), some (.int (nI v)), none, none] [.int (nI (pbo A w v (aN A)))] (zz_SH, I, J) _
      refine Ev.run [(.istore 6, 2), (.aload_n 0, 1), (.iload_n 1, 1), (.iload 5, 2)] (pc' := 31) (L' := [some (.ref 3), some (.int (nI w)), some (.int (lf (lrn A w v))), some (.int (nI (lu (lrn A w v)))), some (.int (nI (ll (lrn A w v)))), some (.int (nI v)), some (.int (nI (pbo A w v (aN A)))), none]) (S' := [.int (nI v), .int (nI w), .ref 3]) rfl (by decide +kernel) rfl ?_
      refine Ev.callS0 mX5_pairsWithEither [.ref 3, .int (nI w), .int (nI v)] [] _ rfl lk_RX5_48 (by decide +kernel) rfl (Nat.le_of_ble_eq_true rfl) (c_X5_pairsWithEither I J A hC hW w v hw (by omega)) ?_
      rintro _ _ ⟨rfl, rfl⟩
      show Ev _ _ _ _ _ 34 [some (.ref 3), some (.int (nI w)), some (.int (lf (lrn A w v))), some (.int (nI (lu (lrn A w v)))), some (.int (nI (ll (lrn A w v)))), some (.int (nI v)), some (.int (nI (pbo A w v (aN A)))), none] [.int (nI (pei A w v (aN A)))] (zz_SH, I, J) _
      refine Ev.run [(.istore 7, 2), (.iload 6, 2), (.iload 4, 2), (.imul, 1)] (pc' := 41) (L' := [some (.ref 3), some (.int (nI w)), some (.int (lf (lrn A w v))), some (.int (nI (lu (lrn A w v)))), some (.int (nI (ll (lrn A w v)))), some (.int (nI v)), some (.int (nI (pbo A w v (aN A)))), some (.int (nI (pei A w v (aN A))))]) (S' := [.int (nI (pbo A w v (aN A)) * nI (ll (lrn A w v)))]) rfl (by decide +kernel) rfl ?_
      rw [pk_mul (pbo A w v (aN A)) (ll (lrn A w v))]
      refine Ev.run [(.iload_n 3, 1), (.iload 7, 2), (.imul, 1)] (pc' := 45) (L' := [some (.ref 3), some (.int (nI w)), some (.int (lf (lrn A w v))), some (.int (nI (lu (lrn A w v)))), some (.int (nI (ll (lrn A w v)))), some (.int (nI v)), some (.int (nI (pbo A w v (aN A)))), some (.int (nI (pei A w v (aN A))))]) (S' := [.int (nI (lu (lrn A w v)) * nI (pei A w v (aN A))), .int (nI ((pbo A w v (aN A)) * (ll (lrn A w v))))]) rfl (by decide +kernel) rfl ?_
      rw [pk_mul (lu (lrn A w v)) (pei A w v (aN A))]
      have m1 : pbo A w v (aN A) * ll (lrn A w v) ≤ 12 * 24 := Nat.mul_le_mul (by omega) (by omega)
      have m2 : lu (lrn A w v) * pei A w v (aN A) ≤ 12 * 24 := Nat.mul_le_mul (by omega) (by omega)
      refine Ev.icmp_le (off := 13) (tgt := 58) (by decide +kernel) (by decide) (fun h45 => ?_) (fun h45 => ?_)
      · have h45 : ((pbo A w v (aN A)) * (ll (lrn A w v))) ≤ ((lu (lrn A w v)) * (pei A w v (aN A))) := zz_bG'_t (by omega) (by omega) h45
        refine Ev.run [(.iinc 5 1, 3)] (pc' := 61) (L' := [some (.ref 3), some (.int (nI w)), some (.int (lf (lrn A w v))), some (.int (nI (lu (lrn A w v)))), some (.int (nI (ll (lrn A w v)))), some (.int (nI v + 1)), some (.int (nI (pbo A w v (aN A)))), some (.int (nI (pei A w v (aN A))))]) (S' := []) rfl (by decide +kernel) rfl ?_
        rw [nI_1 v]
        refine Ev.goto (off := (-50)) (tgt := 11) (by decide +kernel) (by decide) ?_
        refine Ev.weakL (L' := [some (.ref 3), some (.int (nI w)), some (.int (lf (lrn A w v))), some (.int (nI (lu (lrn A w v)))), some (.int (nI (ll (lrn A w v)))), some (.int (nI (v + 1))), none, none]) ⟨rfl, rfl, rfl, rfl, rfl, rfl, trivial⟩ ?_
        have e9 := lrn_n h45
        rw [← e9]
        exact ih (v + 1) (by omega) (by omega)
      · have h45 : ((pbo A w v (aN A)) * (ll (lrn A w v))) > ((lu (lrn A w v)) * (pei A w v (aN A))) := zz_bG'_f (by omega) (by omega) h45
        refine Ev.run [(.iload 5, 2), (.istore_n 2, 1), (.iload 6, 2), (.istore_n 3, 1), (.iload 7, 2), (.istore 4, 2), (.iinc 5 1, 3)] (pc' := 61) (L' := [some (.ref 3), some (.int (nI w)), some (.int (nI v)), some (.int (nI (pbo A w v (aN A)))), some (.int (nI (pei A w v (aN A)))), some (.int (nI v + 1)), some (.int (nI (pbo A w v (aN A)))), some (.int (nI (pei A w v (aN A))))]) (S' := []) rfl (by decide +kernel) rfl ?_
        rw [nI_1 v]
        refine Ev.goto (off := (-50)) (tgt := 11) (by decide +kernel) (by decide) ?_
        refine Ev.weakL (L' := [some (.ref 3), some (.int (nI w)), some (.int (nI v)), some (.int (nI (pbo A w v (aN A)))), some (.int (nI (pei A w v (aN A)))), some (.int (nI (v + 1))), none, none]) ⟨rfl, rfl, rfl, rfl, rfl, rfl, trivial⟩ ?_
        have e9 := lrn_y h45
        rw [show nI v = lf (lrn A w (v + 1)) from by rw [e9]; rfl, show pbo A w v (aN A) = lu (lrn A w (v + 1)) from by rw [e9]; rfl, show pei A w v (aN A) = ll (lrn A w (v + 1)) from by rw [e9]; rfl]
        exact ih (v + 1) (by omega) (by omega)

set_option maxRecDepth 100000 in
set_option maxHeartbeats 4000000 in
theorem c_X5_goesMost {sc : Nat × (Nat → Int32)} {d : Nat} (I : Nat → Nat → Int32) (J : Nat → Nat → Int64) (A : zA) (hC : CR 3 I A) (hW : WF A) (w : Nat) (hw : w < 16) : EvM sc (d + 4) 0 0 mX5_goesMost [.ref 3, .int (nI w)] (zz_SH, I, J) (zz_is (.int (lf (lrn A w 16))) (zz_SH, I, J)) := by
  have w1 := hW.1.1
  have w2 := hW.1.2.1
  refine EvM.of (by decide) rfl (Nat.le_of_ble_eq_true rfl) ?_
  show Ev _ _ _ _ _ 0 [some (.ref 3), some (.int (nI w)), none, none, none, none, none, none] [] (zz_SH, I, J) _
  refine Ev.run [(.bipush (-6), 2), (.istore_n 2, 1), (.iconst 0, 1), (.istore_n 3, 1), (.iconst 1, 1), (.istore 4, 2), (.iconst 0, 1), (.istore 5, 2)] (pc' := 11) (L' := [some (.ref 3), some (.int (nI w)), some (.int ((-6))), some (.int (nI 0)), some (.int (nI 1)), some (.int (nI 0)), none, none]) (S' := []) rfl (by decide +kernel) rfl ?_
  exact l_X5_gm I J A hC hW w hw 17 0 (by omega) (by omega)

set_option maxRecDepth 100000 in
set_option maxHeartbeats 4000000 in
theorem c_X6_learnt_in {sc : Nat × (Nat → Int32)} {d : Nat} (I : Nat → Nat → Int32) (J : Nat → Nat → Int64) (A : zA) (hC : CR 3 I A) (hW : WF A) (w : Nat) (hw : w < 16) : EvM sc (d + 5) 0 0 mX6_learnt [.ref 0, .int (nI w)] (zz_SH, I, J) (zz_is (.int (lf (lrn A w 16))) (zz_SH, I, J)) := by
  refine EvM.of (by decide) rfl (Nat.le_of_ble_eq_true rfl) ?_
  show Ev _ _ _ _ _ 0 [some (.ref 0), some (.int (nI w))] [] (zz_SH, I, J) _
  refine Ev.run [(.iload_n 1, 1)] (pc' := 1) (L' := [some (.ref 0), some (.int (nI w))]) (S' := [.int (nI w)]) rfl (by decide +kernel) rfl ?_
  refine Ev.callS0 mX6_isWord [.int (nI w)] [] _ rfl lk_RX6_167 (by decide +kernel) rfl (Nat.le_of_ble_eq_true rfl) (c_X6_isWord I J (nI w)) ?_
  rintro _ _ ⟨rfl, ⟨rfl, h1⟩ | ⟨rfl, h1⟩⟩
  · show Ev _ _ _ _ _ 4 [some (.ref 0), some (.int (nI w))] [.int (nI 1)] (zz_SH, I, J) _
    refine Ev.if_eq (off := 14) (tgt := 18) (by decide +kernel) (by decide) (fun h4 => absurd h4 (by decide)) (fun h4 => ?_)
    refine Ev.run [(.aload_n 0, 1), (.getfield 21, 3), (.iload_n 1, 1)] (pc' := 12) (L' := [some (.ref 0), some (.int (nI w))]) (S' := [.int (nI w), .ref 3]) rfl (by decide +kernel) rfl ?_
    refine Ev.callS0 mX5_goesMost [.ref 3, .int (nI w)] [] _ rfl lk_RX6_193 (by decide +kernel) rfl (Nat.le_of_ble_eq_true rfl) (c_X5_goesMost I J A hC hW w hw) ?_
    rintro _ _ ⟨rfl, rfl⟩
    show Ev _ _ _ _ _ 15 [some (.ref 0), some (.int (nI w))] [.int (lf (lrn A w 16))] (zz_SH, I, J) _
    refine Ev.goto (off := 4) (tgt := 19) (by decide +kernel) (by decide) ?_
    exact Ev.iret rfl (by decide +kernel) (⟨rfl, rfl⟩)
  · exact absurd ⟨w, hw, rfl⟩ h1

set_option maxRecDepth 100000 in
set_option maxHeartbeats 4000000 in
theorem c_X6_learnt_u {sc : Nat × (Nat → Int32)} {d : Nat} (I : Nat → Nat → Int32) (J : Nat → Nat → Int64) (x : Int32) (hx : ¬ zz_ix x 16) : EvM sc (d + 5) 0 0 mX6_learnt [.ref 0, .int x] (zz_SH, I, J) (zz_is (.int (-1)) (zz_SH, I, J)) := by
  refine EvM.of (by decide) rfl (Nat.le_of_ble_eq_true rfl) ?_
  show Ev _ _ _ _ _ 0 [some (.ref 0), some (.int x)] [] (zz_SH, I, J) _
  refine Ev.run [(.iload_n 1, 1)] (pc' := 1) (L' := [some (.ref 0), some (.int x)]) (S' := [.int x]) rfl (by decide +kernel) rfl ?_
  refine Ev.callS0 mX6_isWord [.int x] [] _ rfl lk_RX6_167 (by decide +kernel) rfl (Nat.le_of_ble_eq_true rfl) (c_X6_isWord I J x) ?_
  rintro _ _ ⟨rfl, ⟨rfl, h1⟩ | ⟨rfl, h1⟩⟩
  · exact absurd h1 hx
  · show Ev _ _ _ _ _ 4 [some (.ref 0), some (.int x)] [.int (nI 0)] (zz_SH, I, J) _
    refine Ev.if_eq (off := 14) (tgt := 18) (by decide +kernel) (by decide) (fun h4 => ?_) (fun h4 => absurd h4 (by decide))
    refine Ev.run [(.iconst (-1), 1)] (pc' := 19) (L' := [some (.ref 0), some (.int x)]) (S' := [.int ((-1))]) rfl (by decide +kernel) rfl ?_
    exact Ev.iret rfl (by decide +kernel) (⟨rfl, rfl⟩)

set_option maxRecDepth 100000 in
set_option maxHeartbeats 4000000 in
theorem l_X5_iw1 {sc : Nat × (Nat → Int32)} {d : Nat} (I : Nat → Nat → Int32) (J : Nat → Nat → Int64) (A : zA) (hC : CR 3 I A) (hW : WF A) (p : Nat) (hp : p < aN A) (n : Nat) (hn : n < 16) (hout : Ev sc (d + 2) 0 0 mX5_isWrong 60 [some (.ref 3), some (.int (nI p)), some (.int (nI n)), some (.int (nI (due A p n 16))), some (.int (nI (ms A n 16))), none] [] (zz_SH, I, J) (zz_is (.int (nI (wb A p 16))) (zz_SH, I, J))) : ∀ (μ : Nat) (k : Nat), 16 - k < μ → (k ≤ 16) →  Ev sc (d + 2) 0 0 mX5_isWrong 16 [some (.ref 3), some (.int (nI p)), some (.int (nI n)), some (.int (nI (due A p n k))), some (.int (nI (ms A n k))), some (.int (nI k))] [] (zz_SH, I, J) (zz_is (.int (nI (wb A p 16))) (zz_SH, I, J)) := by
  intro μ
  induction μ with
  | zero => intro k hμ; exact absurd hμ (Nat.not_lt_zero _)
  | succ μ ih =>
    intro k hμ hk
    have w1 := hW.1.1
    have w2 := hW.1.2.1
    have bF : ∀ x, cF A p x ≤ 12 := fun x => cF_le hW hp x
    have bG : ∀ x, cG A p x ≤ 12 := fun x => cG_le hW hp x
    have bd := due_le hW hp n k
    have bm := ms_le A n k
    have bc := bF k
    refine Ev.run [(.iload 5, 2), (.bipush 16, 2)] (pc' := 20) (L' := [some (.ref 3), some (.int (nI p)), some (.int (nI n)), some (.int (nI (due A p n k))), some (.int (nI (ms A n k))), some (.int (nI k))]) (S' := [.int (nI 16), .int (nI k)]) rfl (by decide +kernel) rfl ?_
    refine Ev.icmp_ge (off := 40) (tgt := 60) (by decide +kernel) (by decide) (fun h20 => ?_) (fun h20 => ?_)
    · have h20 : k ≥ 16 := zz_bG_t (by omega) (by omega) h20
      have hk16 : k = 16 := by omega
      refine Ev.weakL (L' := [some (.ref 3), some (.int (nI p)), some (.int (nI n)), some (.int (nI (due A p n k))), some (.int (nI (ms A n k))), none]) ⟨rfl, rfl, rfl, rfl, rfl, trivial⟩ ?_
      rw [hk16]; exact hout
    · have h20 : k < 16 := zz_bG_f (by omega) (by omega) h20
      refine Ev.run [(.aload_n 0, 1), (.getfield 9, 3), (.iload 5, 2)] (pc' := 29) (L' := [some (.ref 3), some (.int (nI p)), some (.int (nI n)), some (.int (nI (due A p n k))), some (.int (nI (ms A n k))), some (.int (nI k))]) (S' := [.int (nI k), .ref 31]) rfl (by decide +kernel) rfl ?_
      refine Ev.iald k (by decide +kernel) (rfl) (rfl) (by omega) (by first | decide | omega) ?_
      dsimp only
      rw [show I 31 k = ob (mu A k) from hC.1.2.2.2.2.1 k (by omega)]
      refine Ev.run [(.iload_n 2, 1)] (pc' := 31) (L' := [some (.ref 3), some (.int (nI p)), some (.int (nI n)), some (.int (nI (due A p n k))), some (.int (nI (ms A n k))), some (.int (nI k))]) (S' := [.int (nI n), .int (ob (mu A k))]) rfl (by decide +kernel) rfl ?_
      refine Ev.icmp_ne (off := 23) (tgt := 54) (by decide +kernel) (by decide) (fun h31 => ?_) (fun h31 => ?_)
      · rw [ob_eq (by omega) (fun q hq => by have := hW.2.2.2.2.1 k (by omega) q hq; omega)] at h31
        refine Ev.run [(.iinc 5 1, 3)] (pc' := 57) (L' := [some (.ref 3), some (.int (nI p)), some (.int (nI n)), some (.int (nI (due A p n k))), some (.int (nI (ms A n k))), some (.int (nI k + 1))]) (S' := []) rfl (by decide +kernel) rfl ?_
        rw [nI_1 k]
        refine Ev.goto (off := (-41)) (tgt := 16) (by decide +kernel) (by decide) ?_
        have e1 : due A p n (k + 1) = due A p n k := by rw [due, if_neg h31, Nat.add_zero]
        have e2 : ms A n (k + 1) = ms A n k := by rw [ms]; by_cases q : ms A n k ≠ 0; rw [if_pos (Or.inl q)]; omega; rw [if_neg (fun q2 => q2.elim q h31)]; omega
        rw [← e1, ← e2]
        exact ih (k + 1) (by omega) (by omega)
      · rw [ob_eq (by omega) (fun q hq => by have := hW.2.2.2.2.1 k (by omega) q hq; omega)] at h31
        refine Ev.run [(.iconst 1, 1), (.istore 4, 2), (.iload_n 3, 1), (.aload_n 0, 1), (.getfield 15, 3), (.iload_n 1, 1)] (pc' := 43) (L' := [some (.ref 3), some (.int (nI p)), some (.int (nI n)), some (.int (nI (due A p n k))), some (.int (nI 1)), some (.int (nI k))]) (S' := [.int (nI p), .ref 4, .int (nI (due A p n k))]) rfl (by decide +kernel) rfl ?_
        refine Ev.aald p (by decide +kernel) (rfl) (by decide) (rfl) (by omega) (by first | decide | omega) (zz_a36 p (by omega)) ?_
        refine Ev.run [(.bipush 97, 2), (.iload 5, 2), (.iadd, 1)] (pc' := 49) (L' := [some (.ref 3), some (.int (nI p)), some (.int (nI n)), some (.int (nI (due A p n k))), some (.int (nI 1)), some (.int (nI k))]) (S' := [.int (nI 97 + nI k), .ref (36 + 4 * p), .int (nI (due A p n k))]) rfl (by decide +kernel) rfl ?_
        rw [nI_add 97 k]
        refine Ev.callV0 mX4_timesOf [.int (nI (97 + k))] [.int (nI (due A p n k))] _ rfl lk_RX5_19 (by decide +kernel) ((zz_r36 p (by omega)).1) rfl rfl rfl (Nat.le_of_ble_eq_true rfl) (c_X4_timesOf I J (36 + 4 * p) 12 (fz A p) (nI (97 + k)) (zz_r36 p (by omega)) (hC.1.2.1 p hp).2.1.1 (hW.2.1 p hp).1.2.1) ?_
        rintro _ _ ⟨rfl, rfl⟩
        rw [show zz_ct (I (36 + 4 * p + 1)) (nI (97 + k)) (fz A p) = cF A p k from zz_ctN (hC.1.2.1 p hp).2.1 (hW.ff hp) (by omega) _ (Nat.le_refl _)]
        show Ev _ _ _ _ _ 52 [some (.ref 3), some (.int (nI p)), some (.int (nI n)), some (.int (nI (due A p n k))), some (.int (nI 1)), some (.int (nI k))] [.int (nI (cF A p k)), .int (nI (due A p n k))] (zz_SH, I, J) _
        refine Ev.run [(.iadd, 1)] (pc' := 53) (L' := [some (.ref 3), some (.int (nI p)), some (.int (nI n)), some (.int (nI (due A p n k))), some (.int (nI 1)), some (.int (nI k))]) (S' := [.int (nI (due A p n k) + nI (cF A p k))]) rfl (by decide +kernel) rfl ?_
        rw [nI_add (due A p n k) (cF A p k)]
        refine Ev.run [(.istore_n 3, 1), (.iinc 5 1, 3)] (pc' := 57) (L' := [some (.ref 3), some (.int (nI p)), some (.int (nI n)), some (.int (nI ((due A p n k) + (cF A p k)))), some (.int (nI 1)), some (.int (nI k + 1))]) (S' := []) rfl (by decide +kernel) rfl ?_
        rw [nI_1 k]
        refine Ev.goto (off := (-41)) (tgt := 16) (by decide +kernel) (by decide) ?_
        have e1 : due A p n (k + 1) = due A p n k + cF A p k := by rw [due, if_pos h31]
        have e2 : ms A n (k + 1) = 1 := by rw [ms, if_pos (Or.inr h31)]
        rw [← e1]
        have h9 := ih (k + 1) (by omega) (by omega)
        rw [e2] at h9
        exact h9

set_option maxRecDepth 100000 in
set_option maxHeartbeats 4000000 in
theorem l_X5_iw2 {sc : Nat × (Nat → Int32)} {d : Nat} (I : Nat → Nat → Int32) (J : Nat → Nat → Int64) (A : zA) (hC : CR 3 I A) (hW : WF A) (p : Nat) (hp : p < aN A) : ∀ (μ : Nat) (n : Nat), 16 - n < μ → (n ≤ 16) → (wb A p n = 0) →  Ev sc (d + 2) 0 0 mX5_isWrong 2 [some (.ref 3), some (.int (nI p)), some (.int (nI n)), none, none, none] [] (zz_SH, I, J) (zz_is (.int (nI (wb A p 16))) (zz_SH, I, J)) := by
  intro μ
  induction μ with
  | zero => intro n hμ; exact absurd hμ (Nat.not_lt_zero _)
  | succ μ ih =>
    intro n hμ hn hz
    have w1 := hW.1.1
    have w2 := hW.1.2.1
    refine Ev.run [(.iload_n 2, 1), (.bipush 16, 2)] (pc' := 5) (L' := [some (.ref 3), some (.int (nI p)), some (.int (nI n)), none, none, none]) (S' := [.int (nI 16), .int (nI n)]) rfl (by decide +kernel) rfl ?_
    refine Ev.icmp_ge (off := 85) (tgt := 90) (by decide +kernel) (by decide) (fun h5 => ?_) (fun h5 => ?_)
    · have h5 : n ≥ 16 := zz_bG_t (by omega) (by omega) h5
      have hn16 : n = 16 := by omega
      refine Ev.run [(.iconst 0, 1)] (pc' := 91) (L' := [some (.ref 3), some (.int (nI p)), some (.int (nI n)), none, none, none]) (S' := [.int (nI 0)]) rfl (by decide +kernel) rfl ?_
      exact Ev.zret rfl (by decide +kernel) (Or.inl rfl) (⟨by rw [← hn16, hz], rfl⟩)
    · have h5 : n < 16 := zz_bG_f (by omega) (by omega) h5
      refine Ev.run [(.iconst 0, 1), (.istore_n 3, 1), (.iconst 0, 1), (.istore 4, 2), (.iconst 0, 1), (.istore 5, 2)] (pc' := 16) (L' := [some (.ref 3), some (.int (nI p)), some (.int (nI n)), some (.int (nI 0)), some (.int (nI 0)), some (.int (nI 0))]) (S' := []) rfl (by decide +kernel) rfl ?_
      refine l_X5_iw1 I J A hC hW p hp n (by omega) ?_ 17 0 (by omega) (by omega)
      show Ev _ _ _ _ _ 60 [some (.ref 3), some (.int (nI p)), some (.int (nI n)), some (.int (nI (due A p n 16))), some (.int (nI (ms A n 16))), none] [] (zz_SH, I, J) _
      have bd := due_le hW hp n 16
      have bm := ms_le A n 16
      refine Ev.run [(.iload 4, 2)] (pc' := 62) (L' := [some (.ref 3), some (.int (nI p)), some (.int (nI n)), some (.int (nI (due A p n 16))), some (.int (nI (ms A n 16))), none]) (S' := [.int (nI (ms A n 16))]) rfl (by decide +kernel) rfl ?_
      refine Ev.if_eq (off := 22) (tgt := 84) (by decide +kernel) (by decide) (fun h62 => ?_) (fun h62 => ?_)
      · have h62 : (ms A n 16) = 0 := zz_bE_t (by omega) (by omega) h62
        refine Ev.run [(.iinc 2 1, 3)] (pc' := 87) (L' := [some (.ref 3), some (.int (nI p)), some (.int (nI n + 1)), some (.int (nI (due A p n 16))), some (.int (nI (ms A n 16))), none]) (S' := []) rfl (by decide +kernel) rfl ?_
        rw [nI_1 n]
        refine Ev.goto (off := (-85)) (tgt := 2) (by decide +kernel) (by decide) ?_
        refine Ev.weakL (L' := [some (.ref 3), some (.int (nI p)), some (.int (nI (n + 1))), none, none, none]) ⟨rfl, rfl, rfl, trivial⟩ ?_
        exact ih (n + 1) (by omega) (by omega) (by rw [wb, if_neg (fun q => q.elim (fun q => q hz) (fun q => q.1 h62))])
      · have h62 : ¬ (ms A n 16) = 0 := zz_bE_f (by omega) (by omega) h62
        refine Ev.run [(.iload_n 3, 1), (.aload_n 0, 1), (.getfield 25, 3), (.iload_n 1, 1)] (pc' := 71) (L' := [some (.ref 3), some (.int (nI p)), some (.int (nI n)), some (.int (nI (due A p n 16))), some (.int (nI (ms A n 16))), none]) (S' := [.int (nI p), .ref 5, .int (nI (due A p n 16))]) rfl (by decide +kernel) rfl ?_
        refine Ev.aald p (by decide +kernel) (rfl) (by decide) (rfl) (by omega) (by first | decide | omega) (zz_a38 p (by omega)) ?_
        refine Ev.run [(.bipush 65, 2), (.iload_n 2, 1), (.iadd, 1)] (pc' := 76) (L' := [some (.ref 3), some (.int (nI p)), some (.int (nI n)), some (.int (nI (due A p n 16))), some (.int (nI (ms A n 16))), none]) (S' := [.int (nI 65 + nI n), .ref (38 + 4 * p), .int (nI (due A p n 16))]) rfl (by decide +kernel) rfl ?_
        rw [nI_add 65 n]
        refine Ev.callV0 mX4_timesOf [.int (nI (65 + n))] [.int (nI (due A p n 16))] _ rfl lk_RX5_19 (by decide +kernel) ((zz_r38 p (by omega)).1) rfl rfl rfl (Nat.le_of_ble_eq_true rfl) (c_X4_timesOf I J (38 + 4 * p) 12 (gz A p) (nI (65 + n)) (zz_r38 p (by omega)) (hC.1.2.1 p hp).2.2.1 (hW.2.1 p hp).1.2.2.2) ?_
        rintro _ _ ⟨rfl, rfl⟩
        rw [show zz_ct (I (38 + 4 * p + 1)) (nI (65 + n)) (gz A p) = cG A p n from zz_ctN (hC.1.2.1 p hp).2.2 (hW.gg hp) (by omega) _ (Nat.le_refl _)]
        show Ev _ _ _ _ _ 79 [some (.ref 3), some (.int (nI p)), some (.int (nI n)), some (.int (nI (due A p n 16))), some (.int (nI (ms A n 16))), none] [.int (nI (cG A p n)), .int (nI (due A p n 16))] (zz_SH, I, J) _
        have bG := cG_le hW hp n
        refine Ev.icmp_eq (off := 5) (tgt := 84) (by decide +kernel) (by decide) (fun h79 => ?_) (fun h79 => ?_)
        · have h79 : (due A p n 16) = (cG A p n) := zz_bE_t (by omega) (by omega) h79
          refine Ev.run [(.iinc 2 1, 3)] (pc' := 87) (L' := [some (.ref 3), some (.int (nI p)), some (.int (nI n + 1)), some (.int (nI (due A p n 16))), some (.int (nI (ms A n 16))), none]) (S' := []) rfl (by decide +kernel) rfl ?_
          rw [nI_1 n]
          refine Ev.goto (off := (-85)) (tgt := 2) (by decide +kernel) (by decide) ?_
          refine Ev.weakL (L' := [some (.ref 3), some (.int (nI p)), some (.int (nI (n + 1))), none, none, none]) ⟨rfl, rfl, rfl, trivial⟩ ?_
          exact ih (n + 1) (by omega) (by omega) (by rw [wb, if_neg (fun q => q.elim (fun q => q hz) (fun q => q.2 h79))])
        · have h79 : ¬ (due A p n 16) = (cG A p n) := zz_bE_f (by omega) (by omega) h79
          refine Ev.run [(.iconst 1, 1)] (pc' := 83) (L' := [some (.ref 3), some (.int (nI p)), some (.int (nI n)), some (.int (nI (due A p n 16))), some (.int (nI (ms A n 16))), none]) (S' := [.int (nI 1)]) rfl (by decide +kernel) rfl ?_
          exact Ev.zret rfl (by decide +kernel) (Or.inr rfl) (⟨by have e9 : wb A p (n + 1) = 1 := by { rw [wb, if_pos (Or.inr ⟨h62, h79⟩)] }; have e8 := wb_mono e9 (16 - (n + 1)); rw [show n + 1 + (16 - (n + 1)) = 16 by omega] at e8; rw [e8], rfl⟩)

set_option maxRecDepth 100000 in
set_option maxHeartbeats 4000000 in
theorem c_X5_isWrong {sc : Nat × (Nat → Int32)} {d : Nat} (I : Nat → Nat → Int32) (J : Nat → Nat → Int64) (A : zA) (hC : CR 3 I A) (hW : WF A) (p : Nat) (hp : p < aN A) : EvM sc (d + 2) 0 0 mX5_isWrong [.ref 3, .int (nI p)] (zz_SH, I, J) (zz_is (.int (nI (wb A p 16))) (zz_SH, I, J)) := by
  have w1 := hW.1.1
  have w2 := hW.1.2.1
  refine EvM.of (by decide) rfl (Nat.le_of_ble_eq_true rfl) ?_
  show Ev _ _ _ _ _ 0 [some (.ref 3), some (.int (nI p)), none, none, none, none] [] (zz_SH, I, J) _
  refine Ev.run [(.iconst 0, 1), (.istore_n 2, 1)] (pc' := 2) (L' := [some (.ref 3), some (.int (nI p)), some (.int (nI 0)), none, none, none]) (S' := []) rfl (by decide +kernel) rfl ?_
  exact l_X5_iw2 I J A hC hW p hp 17 0 (by omega) (by omega) rfl

set_option maxRecDepth 100000 in
set_option maxHeartbeats 4000000 in
theorem l_X6_wrongs {sc : Nat × (Nat → Int32)} {d : Nat} (I : Nat → Nat → Int32) (J : Nat → Nat → Int64) (A : zA) (hC : CR 3 I A) (hW : WF A) : ∀ (μ : Nat) (p : Nat), aN A - p < μ → (p ≤ aN A) →  Ev sc (d + 3) 0 0 mX6_wrongs 4 [some (.ref 0), some (.int (nI (wrs A p))), some (.int (nI p))] [] (zz_SH, I, J) (zz_is (.int (nI (wrs A (aN A)))) (zz_SH, I, J)) := by
  intro μ
  induction μ with
  | zero => intro p hμ; exact absurd hμ (Nat.not_lt_zero _)
  | succ μ ih =>
    intro p hμ hp
    have w1 := hW.1.1
    have w2 := hW.1.2.1
    have bw := wb_le A p 16
    refine Ev.run [(.iload_n 2, 1), (.aload_n 0, 1), (.getfield 21, 3), (.getfield 72, 3)] (pc' := 12) (L' := [some (.ref 0), some (.int (nI (wrs A p))), some (.int (nI p))]) (S' := [.int (I 3 10), .int (nI p)]) rfl (by decide +kernel) rfl ?_
    rw [show I 3 10 = nI (aN A) from hC.1.1.1]
    refine Ev.icmp_ge (off := 26) (tgt := 38) (by decide +kernel) (by decide) (fun h12 => ?_) (fun h12 => ?_)
    · have h12 : p ≥ (aN A) := zz_bG_t (by omega) (by omega) h12
      have hpN : aN A = p := by omega
      refine Ev.run [(.iload_n 1, 1)] (pc' := 39) (L' := [some (.ref 0), some (.int (nI (wrs A p))), some (.int (nI p))]) (S' := [.int (nI (wrs A p))]) rfl (by decide +kernel) rfl ?_
      exact Ev.iret rfl (by decide +kernel) (⟨by rw [hpN], rfl⟩)
    · have h12 : p < (aN A) := zz_bG_f (by omega) (by omega) h12
      refine Ev.run [(.aload_n 0, 1), (.getfield 21, 3), (.iload_n 2, 1)] (pc' := 20) (L' := [some (.ref 0), some (.int (nI (wrs A p))), some (.int (nI p))]) (S' := [.int (nI p), .ref 3]) rfl (by decide +kernel) rfl ?_
      refine Ev.callS0 mX5_isWrong [.ref 3, .int (nI p)] [] _ rfl lk_RX6_173 (by decide +kernel) rfl (Nat.le_of_ble_eq_true rfl) (c_X5_isWrong I J A hC hW p (by omega)) ?_
      rintro _ _ ⟨rfl, rfl⟩
      show Ev _ _ _ _ _ 23 [some (.ref 0), some (.int (nI (wrs A p))), some (.int (nI p))] [.int (nI (wb A p 16))] (zz_SH, I, J) _
      refine Ev.if_eq (off := 9) (tgt := 32) (by decide +kernel) (by decide) (fun h23 => ?_) (fun h23 => ?_)
      · have h23 : (wb A p 16) = 0 := zz_bE_t (by omega) (by omega) h23
        refine Ev.run [(.iinc 2 1, 3)] (pc' := 35) (L' := [some (.ref 0), some (.int (nI (wrs A p))), some (.int (nI p + 1))]) (S' := []) rfl (by decide +kernel) rfl ?_
        rw [nI_1 p]
        refine Ev.goto (off := (-31)) (tgt := 4) (by decide +kernel) (by decide) ?_
        rw [show wrs A p = wrs A (p + 1) from by rw [wrs, if_pos h23, Nat.or_zero]]
        exact ih (p + 1) (by omega) (by omega)
      · have h23 : ¬ (wb A p 16) = 0 := zz_bE_f (by omega) (by omega) h23
        refine Ev.run [(.iload_n 1, 1), (.iconst 1, 1), (.iload_n 2, 1), (.ishl, 1)] (pc' := 30) (L' := [some (.ref 0), some (.int (nI (wrs A p))), some (.int (nI p))]) (S' := [.int ((nI 1) <<< (nI p &&& 31)), .int (nI (wrs A p))]) rfl (by decide +kernel) rfl ?_
        rw [zz_shl1 (k := p) (by omega)]
        refine Ev.run [(.ior, 1)] (pc' := 31) (L' := [some (.ref 0), some (.int (nI (wrs A p))), some (.int (nI p))]) (S' := [.int (nI (wrs A p) ||| nI (2 ^ p))]) rfl (by decide +kernel) rfl ?_
        rw [zz_or (wrs A p) (2 ^ p)]
        refine Ev.run [(.istore_n 1, 1), (.iinc 2 1, 3)] (pc' := 35) (L' := [some (.ref 0), some (.int (nI ((wrs A p) ||| (2 ^ p)))), some (.int (nI p + 1))]) (S' := []) rfl (by decide +kernel) rfl ?_
        rw [nI_1 p]
        refine Ev.goto (off := (-31)) (tgt := 4) (by decide +kernel) (by decide) ?_
        rw [show wrs A p ||| 2 ^ p = wrs A (p + 1) from by rw [wrs, if_neg h23]]
        exact ih (p + 1) (by omega) (by omega)

set_option maxRecDepth 100000 in
set_option maxHeartbeats 4000000 in
theorem c_X6_wrongs {sc : Nat × (Nat → Int32)} {d : Nat} (I : Nat → Nat → Int32) (J : Nat → Nat → Int64) (A : zA) (hC : CR 3 I A) (hW : WF A) : EvM sc (d + 3) 0 0 mX6_wrongs [.ref 0] (zz_SH, I, J) (zz_is (.int (nI (wrs A (aN A)))) (zz_SH, I, J)) := by
  have w1 := hW.1.1
  have w2 := hW.1.2.1
  refine EvM.of (by decide) rfl (Nat.le_of_ble_eq_true rfl) ?_
  show Ev _ _ _ _ _ 0 [some (.ref 0), none, none] [] (zz_SH, I, J) _
  refine Ev.run [(.iconst 0, 1), (.istore_n 1, 1), (.iconst 0, 1), (.istore_n 2, 1)] (pc' := 4) (L' := [some (.ref 0), some (.int (nI 0)), some (.int (nI 0))]) (S' := []) rfl (by decide +kernel) rfl ?_
  exact l_X6_wrongs I J A hC hW (aN A + 1) 0 (by omega) (by omega)
