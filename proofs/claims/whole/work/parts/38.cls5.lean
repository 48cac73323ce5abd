/-! ===== the class: the pad's faults ===== -/
theorem zz_p61 {I : Nat → Nat → Int32} {np e : Nat} {pd : Nat → Nat} (hp : zz_rf I 1 np pd) (hnp : np ≤ 30) (hpr : ∀ j, j < np → 33 ≤ pd j ∧ pd j ≤ 126) (he : e < 1000) : zz_rat I 1 30 (nI e) = nI 61 ↔ (e < np ∧ pd e = 61) := by
  by_cases h : e < np
  · rw [zz_rf.at hp hnp (by decide) h, nI_eq (by have := (hpr e h).2; omega) (by decide)]
    exact ⟨fun q => ⟨h, q⟩, fun q => q.2⟩
  · rw [zz_rat_outN (s := np) hp.1 (by omega) (by omega) (by omega)]
    exact ⟨fun q => absurd q (by decide), fun q => absurd q.1 h⟩

set_option maxRecDepth 100000 in
set_option maxHeartbeats 4000000 in
theorem c_X6_standsIn {sc : Nat × (Nat → Int32)} {d : Nat} (I : Nat → Nat → Int32) (J : Nat → Nat → Int64) (tg x : Nat) (htg : tg < 1000) (hx : x < 1000) : EvM sc (d + 1) 0 0 mX6_standsIn [.int (nI tg), .int (nI x)] (zz_SH, I, J) (zz_tf (stn tg x = true) (zz_SH, I, J)) := by
  refine EvM.of (by decide) rfl (Nat.le_of_ble_eq_true rfl) ?_
  show Ev _ _ _ _ _ 0 [some (.int (nI tg)), some (.int (nI x))] [] (zz_SH, I, J) _
  refine Ev.run [(.iload_n 1, 1)] (pc' := 1) (L' := [some (.int (nI tg)), some (.int (nI x))]) (S' := [.int (nI x)]) rfl (by decide +kernel) rfl ?_
  refine Ev.callS0 mX6_isNumber [.int (nI x)] [] _ rfl lk_RX6_115 (by decide +kernel) rfl (Nat.le_of_ble_eq_true rfl) (c_X6_isNumber I J (nI x)) ?_
  rintro _ _ ⟨rfl, ⟨rfl, h1⟩ | ⟨rfl, h1⟩⟩
  · show Ev _ _ _ _ _ 4 [some (.int (nI tg)), some (.int (nI x))] [.int (nI 1)] (zz_SH, I, J) _
    rw [zz_num hx] at h1
    refine Ev.if_ne (off := 16) (tgt := 20) (by decide +kernel) (by decide) (fun h4 => ?_) (fun h4 => absurd h4 (by decide))
    refine Ev.run [(.iconst 1, 1)] (pc' := 21) (L' := [some (.int (nI tg)), some (.int (nI x))]) (S' := [.int (nI 1)]) rfl (by decide +kernel) rfl ?_
    refine Ev.goto (off := 4) (tgt := 25) (by decide +kernel) (by decide) ?_
    exact Ev.zret rfl (by decide +kernel) (Or.inr rfl) (⟨rfl, Or.inl ⟨rfl, stn_y (Or.inl h1)⟩⟩)
  · show Ev _ _ _ _ _ 4 [some (.int (nI tg)), some (.int (nI x))] [.int (nI 0)] (zz_SH, I, J) _
    rw [zz_num hx] at h1
    refine Ev.if_ne (off := 16) (tgt := 20) (by decide +kernel) (by decide) (fun h4 => absurd h4 (by decide)) (fun h4 => ?_)
    refine Ev.run [(.iload_n 1, 1), (.iload_n 0, 1)] (pc' := 9) (L' := [some (.int (nI tg)), some (.int (nI x))]) (S' := [.int (nI tg), .int (nI x)]) rfl (by decide +kernel) rfl ?_
    refine Ev.icmp_lt (off := 15) (tgt := 24) (by decide +kernel) (by decide) (fun h9 => ?_) (fun h9 => ?_)
    · have h9 : x < tg := zz_bL_t (by omega) (by omega) h9
      refine Ev.run [(.iconst 0, 1)] (pc' := 25) (L' := [some (.int (nI tg)), some (.int (nI x))]) (S' := [.int (nI 0)]) rfl (by decide +kernel) rfl ?_
      exact Ev.zret rfl (by decide +kernel) (Or.inl rfl) (⟨rfl, Or.inr ⟨rfl, fun q => by rw [stn_n h1 (by omega)] at q; cases q⟩⟩)
    · have h9 : x ≥ tg := zz_bL_f (by omega) (by omega) h9
      refine Ev.run [(.iload_n 1, 1), (.iload_n 0, 1), (.bipush 16, 2), (.iadd, 1)] (pc' := 17) (L' := [some (.int (nI tg)), some (.int (nI x))]) (S' := [.int (nI tg + nI 16), .int (nI x)]) rfl (by decide +kernel) rfl ?_
      rw [nI_add tg 16]
      refine Ev.icmp_ge (off := 7) (tgt := 24) (by decide +kernel) (by decide) (fun h17 => ?_) (fun h17 => ?_)
      · have h17 : x ≥ (tg + 16) := zz_bG_t (by omega) (by omega) h17
        refine Ev.run [(.iconst 0, 1)] (pc' := 25) (L' := [some (.int (nI tg)), some (.int (nI x))]) (S' := [.int (nI 0)]) rfl (by decide +kernel) rfl ?_
        exact Ev.zret rfl (by decide +kernel) (Or.inl rfl) (⟨rfl, Or.inr ⟨rfl, fun q => by rw [stn_n h1 (by omega)] at q; cases q⟩⟩)
      · have h17 : x < (tg + 16) := zz_bG_f (by omega) (by omega) h17
        refine Ev.run [(.iconst 1, 1)] (pc' := 21) (L' := [some (.int (nI tg)), some (.int (nI x))]) (S' := [.int (nI 1)]) rfl (by decide +kernel) rfl ?_
        refine Ev.goto (off := 4) (tgt := 25) (by decide +kernel) (by decide) ?_
        exact Ev.zret rfl (by decide +kernel) (Or.inr rfl) (⟨rfl, Or.inl ⟨rfl, stn_y (Or.inr ⟨by omega, by omega⟩)⟩⟩)

set_option maxRecDepth 100000 in
set_option maxHeartbeats 4000000 in
theorem l_X6_eot {sc : Nat × (Nat → Int32)} {d : Nat} (I : Nat → Nat → Int32) (J : Nat → Nat → Int64) (np : Nat) (pd : Nat → Nat) (hP : zz_rf I 1 np pd) (hnp : np ≤ 30) (hpr : ∀ j, j < np → 33 ≤ pd j ∧ pd j ≤ 126) (tg a : Nat) (htg : tg < 900) (ha : a ≤ np) : ∀ (μ : Nat) (pl : Nat), np - pl < μ → (a ≤ pl) → (pl ≤ np) → (pl ≤ a + 12) → (et np pd tg (a + 12 - pl) pl = et np pd tg 12 a) →  Ev sc (d + 2) 0 0 mX6_endOfTongue 2 [some (.ref 0), some (.int (nI a)), some (.int (nI tg)), some (.int (nI pl))] [] (zz_SH, I, J) (zz_is (.int (nI (et np pd tg 12 a))) (zz_SH, I, J)) := by
  intro μ
  induction μ with
  | zero => intro pl hμ; exact absurd hμ (Nat.not_lt_zero _)
  | succ μ ih =>
    intro pl hμ hpl hpl2 hpl3 hE
    refine Ev.run [(.iload_n 3, 1), (.aload_n 0, 1), (.getfield 14, 3), (.getfield 58, 3)] (pc' := 10) (L' := [some (.ref 0), some (.int (nI a)), some (.int (nI tg)), some (.int (nI pl))]) (S' := [.int (I 1 1), .int (nI pl)]) rfl (by decide +kernel) rfl ?_
    rw [hP.1]
    refine Ev.icmp_ge (off := 32) (tgt := 42) (by decide +kernel) (by decide) (fun h10 => ?_) (fun h10 => ?_)
    · have h10 : pl ≥ np := zz_bG_t (by omega) (by omega) h10
      refine Ev.run [(.iload_n 3, 1)] (pc' := 43) (L' := [some (.ref 0), some (.int (nI a)), some (.int (nI tg)), some (.int (nI pl))]) (S' := [.int (nI pl)]) rfl (by decide +kernel) rfl ?_
      exact Ev.iret rfl (by decide +kernel) (⟨by rw [← hE, et_np (by omega)], rfl⟩)
    · have h10 : pl < np := zz_bG_f (by omega) (by omega) h10
      refine Ev.run [(.iload_n 3, 1), (.iload_n 1, 1), (.bipush 12, 2), (.iadd, 1)] (pc' := 18) (L' := [some (.ref 0), some (.int (nI a)), some (.int (nI tg)), some (.int (nI pl))]) (S' := [.int (nI a + nI 12), .int (nI pl)]) rfl (by decide +kernel) rfl ?_
      rw [nI_add a 12]
      refine Ev.icmp_ge (off := 24) (tgt := 42) (by decide +kernel) (by decide) (fun h18 => ?_) (fun h18 => ?_)
      · have h18 : pl ≥ (a + 12) := zz_bG_t (by omega) (by omega) h18
        refine Ev.run [(.iload_n 3, 1)] (pc' := 43) (L' := [some (.ref 0), some (.int (nI a)), some (.int (nI tg)), some (.int (nI pl))]) (S' := [.int (nI pl)]) rfl (by decide +kernel) rfl ?_
        exact Ev.iret rfl (by decide +kernel) (⟨by rw [← hE, show a + 12 - pl = 0 by omega, et], rfl⟩)
      · have h18 : pl < (a + 12) := zz_bG_f (by omega) (by omega) h18
        refine Ev.run [(.iload_n 2, 1), (.aload_n 0, 1), (.getfield 14, 3), (.iload_n 3, 1)] (pc' := 27) (L' := [some (.ref 0), some (.int (nI a)), some (.int (nI tg)), some (.int (nI pl))]) (S' := [.int (nI pl), .ref 1, .int (nI tg)]) rfl (by decide +kernel) rfl ?_
        refine Ev.callV0 mX4_at [.int (nI pl)] [.int (nI tg)] _ rfl lk_RX6_107 (by decide +kernel) (rfl) rfl rfl rfl (Nat.le_of_ble_eq_true rfl) (c_X4_at I J 1 30 (nI pl) zz_row1) ?_
        rintro _ _ ⟨rfl, rfl⟩
        rw [zz_rf.at hP hnp (by decide) h10]
        have b1 := (hpr pl h10).2
        show Ev _ _ _ _ _ 30 [some (.ref 0), some (.int (nI a)), some (.int (nI tg)), some (.int (nI pl))] [.int (nI (pd pl)), .int (nI tg)] (zz_SH, I, J) _
        refine Ev.callS0 mX6_standsIn [.int (nI tg), .int (nI (pd pl))] [] _ rfl lk_RX6_111 (by decide +kernel) rfl (Nat.le_of_ble_eq_true rfl) (c_X6_standsIn I J tg (pd pl) (by omega) (by omega)) ?_
        rintro _ _ ⟨rfl, ⟨rfl, h30⟩ | ⟨rfl, h30⟩⟩
        · show Ev _ _ _ _ _ 33 [some (.ref 0), some (.int (nI a)), some (.int (nI tg)), some (.int (nI pl))] [.int (nI 1)] (zz_SH, I, J) _
          refine Ev.if_eq (off := 9) (tgt := 42) (by decide +kernel) (by decide) (fun h33 => absurd h33 (by decide)) (fun h33 => ?_)
          refine Ev.run [(.iinc 3 1, 3)] (pc' := 39) (L' := [some (.ref 0), some (.int (nI a)), some (.int (nI tg)), some (.int (nI pl + 1))]) (S' := []) rfl (by decide +kernel) rfl ?_
          rw [nI_1 pl]
          refine Ev.goto (off := (-37)) (tgt := 2) (by decide +kernel) (by decide) ?_
          exact ih (pl + 1) (by omega) (by omega) (by omega) (by omega) (by rw [← hE, et_st (by omega) h10 h30, show a + 12 - pl - 1 = a + 12 - (pl + 1) by omega])
        · show Ev _ _ _ _ _ 33 [some (.ref 0), some (.int (nI a)), some (.int (nI tg)), some (.int (nI pl))] [.int (nI 0)] (zz_SH, I, J) _
          refine Ev.if_eq (off := 9) (tgt := 42) (by decide +kernel) (by decide) (fun h33 => ?_) (fun h33 => absurd h33 (by decide))
          refine Ev.run [(.iload_n 3, 1)] (pc' := 43) (L' := [some (.ref 0), some (.int (nI a)), some (.int (nI tg)), some (.int (nI pl))]) (S' := [.int (nI pl)]) rfl (by decide +kernel) rfl ?_
          exact Ev.iret rfl (by decide +kernel) (⟨by rw [← hE, et_no (Bool.eq_false_iff.mpr h30)], rfl⟩)

set_option maxRecDepth 100000 in
set_option maxHeartbeats 4000000 in
theorem c_X6_endOfTongue {sc : Nat × (Nat → Int32)} {d : Nat} (I : Nat → Nat → Int32) (J : Nat → Nat → Int64) (np : Nat) (pd : Nat → Nat) (hP : zz_rf I 1 np pd) (hnp : np ≤ 30) (hpr : ∀ j, j < np → 33 ≤ pd j ∧ pd j ≤ 126) (tg a : Nat) (htg : tg < 900) (ha : a ≤ np) : EvM sc (d + 2) 0 0 mX6_endOfTongue [.ref 0, .int (nI a), .int (nI tg)] (zz_SH, I, J) (zz_is (.int (nI (et np pd tg 12 a))) (zz_SH, I, J)) := by
  refine EvM.of (by decide) rfl (Nat.le_of_ble_eq_true rfl) ?_
  show Ev _ _ _ _ _ 0 [some (.ref 0), some (.int (nI a)), some (.int (nI tg)), none] [] (zz_SH, I, J) _
  refine Ev.run [(.iload_n 1, 1), (.istore_n 3, 1)] (pc' := 2) (L' := [some (.ref 0), some (.int (nI a)), some (.int (nI tg)), some (.int (nI a))]) (S' := []) rfl (by decide +kernel) rfl ?_
  exact l_X6_eot I J np pd hP hnp hpr tg a htg ha (np + 1) a (by omega) (by omega) (by omega) (by omega) (by rw [Nat.add_sub_cancel_left])

set_option maxRecDepth 100000 in
set_option maxHeartbeats 4000000 in
theorem c_X6_faultAsSentence {sc : Nat × (Nat → Int32)} {d : Nat} (I : Nat → Nat → Int32) (J : Nat → Nat → Int64) (np : Nat) (pd : Nat → Nat) (hP : zz_rf I 1 np pd) (hnp : np ≤ 30) (hpr : ∀ j, j < np → 33 ≤ pd j ∧ pd j ≤ 126) : EvM sc (d + 3) 0 0 mX6_faultAsSentence [.ref 0] (zz_SH, I, J) (zz_is (.int (ob (fS np pd))) (zz_SH, I, J)) := by
  have be := et_b np pd 97 12 0 (Nat.zero_le _)
  rw [show et np pd 97 12 0 = E1 np pd from rfl] at be
  refine EvM.of (by decide) rfl (Nat.le_of_ble_eq_true rfl) ?_
  show Ev _ _ _ _ _ 0 [some (.ref 0), none] [] (zz_SH, I, J) _
  refine Ev.run [(.aload_n 0, 1), (.iconst 0, 1), (.bipush 97, 2)] (pc' := 4) (L' := [some (.ref 0), none]) (S' := [.int (nI 97), .int (nI 0), .ref 0]) rfl (by decide +kernel) rfl ?_
  refine Ev.callV0 mX6_endOfTongue [.int (nI 0), .int (nI 97)] [] _ rfl lk_RX6_75 (by decide +kernel) (rfl) rfl rfl rfl (Nat.le_of_ble_eq_true rfl) (c_X6_endOfTongue I J np pd hP hnp hpr 97 0 (by decide) (Nat.zero_le _)) ?_
  rintro _ _ ⟨rfl, rfl⟩
  rw [show et np pd 97 12 0 = E1 np pd from rfl]
  show Ev _ _ _ _ _ 7 [some (.ref 0), none] [.int (nI (E1 np pd))] (zz_SH, I, J) _
  refine Ev.run [(.istore_n 1, 1), (.iload_n 1, 1), (.aload_n 0, 1), (.getfield 14, 3), (.getfield 58, 3)] (pc' := 16) (L' := [some (.ref 0), some (.int (nI (E1 np pd)))]) (S' := [.int (I 1 1), .int (nI (E1 np pd))]) rfl (by decide +kernel) rfl ?_
  rw [hP.1]
  refine Ev.icmp_lt (off := 7) (tgt := 23) (by decide +kernel) (by decide) (fun h16 => ?_) (fun h16 => ?_)
  · have h16 : (E1 np pd) < np := zz_bL_t (by omega) (by omega) h16
    refine Ev.run [(.iload_n 1, 1)] (pc' := 24) (L' := [some (.ref 0), some (.int (nI (E1 np pd)))]) (S' := [.int (nI (E1 np pd))]) rfl (by decide +kernel) rfl ?_
    refine Ev.goto (off := 5) (tgt := 29) (by decide +kernel) (by decide) ?_
    exact Ev.iret rfl (by decide +kernel) (⟨by rw [fS, if_pos (by omega)]; rfl, rfl⟩)
  · have h16 : (E1 np pd) ≥ np := zz_bL_f (by omega) (by omega) h16
    refine Ev.run [(.iload_n 1, 1)] (pc' := 20) (L' := [some (.ref 0), some (.int (nI (E1 np pd)))]) (S' := [.int (nI (E1 np pd))]) rfl (by decide +kernel) rfl ?_
    refine Ev.if_ne (off := 7) (tgt := 27) (by decide +kernel) (by decide) (fun h20 => ?_) (fun h20 => ?_)
    · have h20 : ¬ (E1 np pd) = 0 := zz_bE_f (by omega) (by omega) h20
      refine Ev.run [(.bipush (-6), 2)] (pc' := 29) (L' := [some (.ref 0), some (.int (nI (E1 np pd)))]) (S' := [.int ((-6))]) rfl (by decide +kernel) rfl ?_
      exact Ev.iret rfl (by decide +kernel) (⟨by rw [fS, if_neg (by omega)]; rfl, rfl⟩)
    · have h20 : (E1 np pd) = 0 := zz_bE_t (by omega) (by omega) h20
      refine Ev.run [(.iload_n 1, 1)] (pc' := 24) (L' := [some (.ref 0), some (.int (nI (E1 np pd)))]) (S' := [.int (nI (E1 np pd))]) rfl (by decide +kernel) rfl ?_
      refine Ev.goto (off := 5) (tgt := 29) (by decide +kernel) (by decide) ?_
      exact Ev.iret rfl (by decide +kernel) (⟨by rw [fS, if_pos (by omega)]; rfl, rfl⟩)

set_option maxRecDepth 100000 in
set_option maxHeartbeats 4000000 in
theorem c_X6_faultAsPair {sc : Nat × (Nat → Int32)} {d : Nat} (I : Nat → Nat → Int32) (J : Nat → Nat → Int64) (np : Nat) (pd : Nat → Nat) (hP : zz_rf I 1 np pd) (hnp : np ≤ 30) (hpr : ∀ j, j < np → 33 ≤ pd j ∧ pd j ≤ 126) : EvM sc (d + 3) 0 0 mX6_faultAsPair [.ref 0] (zz_SH, I, J) (zz_is (.int (ob (fP np pd))) (zz_SH, I, J)) := by
  have be := et_b np pd 97 12 0 (Nat.zero_le _)
  rw [show et np pd 97 12 0 = E1 np pd from rfl] at be
  have bf : E1 np pd + 1 ≤ np → E1 np pd + 1 ≤ E2 np pd ∧ E2 np pd ≤ E1 np pd + 1 + 12 ∧ E2 np pd ≤ np := fun q => et_b np pd 65 12 (E1 np pd + 1) q
  refine EvM.of (by decide) rfl (Nat.le_of_ble_eq_true rfl) ?_
  show Ev _ _ _ _ _ 0 [some (.ref 0), none, none] [] (zz_SH, I, J) _
  refine Ev.run [(.aload_n 0, 1), (.iconst 0, 1), (.bipush 97, 2)] (pc' := 4) (L' := [some (.ref 0), none, none]) (S' := [.int (nI 97), .int (nI 0), .ref 0]) rfl (by decide +kernel) rfl ?_
  refine Ev.callV0 mX6_endOfTongue [.int (nI 0), .int (nI 97)] [] _ rfl lk_RX6_75 (by decide +kernel) (rfl) rfl rfl rfl (Nat.le_of_ble_eq_true rfl) (c_X6_endOfTongue I J np pd hP hnp hpr 97 0 (by decide) (Nat.zero_le _)) ?_
  rintro _ _ ⟨rfl, rfl⟩
  rw [show et np pd 97 12 0 = E1 np pd from rfl]
  show Ev _ _ _ _ _ 7 [some (.ref 0), none, none] [.int (nI (E1 np pd))] (zz_SH, I, J) _
  refine Ev.run [(.istore_n 1, 1), (.iload_n 1, 1)] (pc' := 9) (L' := [some (.ref 0), some (.int (nI (E1 np pd))), none]) (S' := [.int (nI (E1 np pd))]) rfl (by decide +kernel) rfl ?_
  refine Ev.if_eq (off := 16) (tgt := 25) (by decide +kernel) (by decide) (fun h9 => ?_) (fun h9 => ?_)
  · have h9 : (E1 np pd) = 0 := zz_bE_t (by omega) (by omega) h9
    refine Ev.run [(.iload_n 1, 1)] (pc' := 26) (L' := [some (.ref 0), some (.int (nI (E1 np pd))), none]) (S' := [.int (nI (E1 np pd))]) rfl (by decide +kernel) rfl ?_
    exact Ev.iret rfl (by decide +kernel) (⟨by rw [fP, if_pos (Or.inl h9)]; rfl, rfl⟩)
  · have h9 : ¬ (E1 np pd) = 0 := zz_bE_f (by omega) (by omega) h9
    refine Ev.run [(.aload_n 0, 1), (.getfield 14, 3), (.iload_n 1, 1)] (pc' := 17) (L' := [some (.ref 0), some (.int (nI (E1 np pd))), none]) (S' := [.int (nI (E1 np pd)), .ref 1]) rfl (by decide +kernel) rfl ?_
    refine Ev.callV0 mX4_at [.int (nI (E1 np pd))] [] _ rfl lk_RX6_107 (by decide +kernel) (rfl) rfl rfl rfl (Nat.le_of_ble_eq_true rfl) (c_X4_at I J 1 30 (nI (E1 np pd)) zz_row1) ?_
    rintro _ _ ⟨rfl, rfl⟩
    show Ev _ _ _ _ _ 20 [some (.ref 0), some (.int (nI (E1 np pd))), none] [.int (zz_rat I 1 30 (nI (E1 np pd)))] (zz_SH, I, J) _
    refine Ev.run [(.bipush 61, 2)] (pc' := 22) (L' := [some (.ref 0), some (.int (nI (E1 np pd))), none]) (S' := [.int (nI 61), .int (zz_rat I 1 30 (nI (E1 np pd)))]) rfl (by decide +kernel) rfl ?_
    refine Ev.icmp_eq (off := 5) (tgt := 27) (by decide +kernel) (by decide) (fun h22 => ?_) (fun h22 => ?_)
    · rw [zz_p61 hP hnp hpr (by omega)] at h22
      have bf := bf (by omega)
      refine Ev.run [(.aload_n 0, 1), (.iload_n 1, 1), (.iconst 1, 1), (.iadd, 1)] (pc' := 31) (L' := [some (.ref 0), some (.int (nI (E1 np pd))), none]) (S' := [.int (nI (E1 np pd) + nI 1), .ref 0]) rfl (by decide +kernel) rfl ?_
      rw [nI_add (E1 np pd) 1]
      refine Ev.run [(.bipush 65, 2)] (pc' := 33) (L' := [some (.ref 0), some (.int (nI (E1 np pd))), none]) (S' := [.int (nI 65), .int (nI ((E1 np pd) + 1)), .ref 0]) rfl (by decide +kernel) rfl ?_
      refine Ev.callV0 mX6_endOfTongue [.int (nI ((E1 np pd) + 1)), .int (nI 65)] [] _ rfl lk_RX6_75 (by decide +kernel) (rfl) rfl rfl rfl (Nat.le_of_ble_eq_true rfl) (c_X6_endOfTongue I J np pd hP hnp hpr 65 (E1 np pd + 1) (by decide) (by omega)) ?_
      rintro _ _ ⟨rfl, rfl⟩
      rw [show et np pd 65 12 (E1 np pd + 1) = E2 np pd from rfl]
      show Ev _ _ _ _ _ 36 [some (.ref 0), some (.int (nI (E1 np pd))), none] [.int (nI (E2 np pd))] (zz_SH, I, J) _
      refine Ev.run [(.istore_n 2, 1), (.iload_n 2, 1), (.aload_n 0, 1), (.getfield 14, 3), (.getfield 58, 3)] (pc' := 45) (L' := [some (.ref 0), some (.int (nI (E1 np pd))), some (.int (nI (E2 np pd)))]) (S' := [.int (I 1 1), .int (nI (E2 np pd))]) rfl (by decide +kernel) rfl ?_
      rw [hP.1]
      refine Ev.icmp_lt (off := 10) (tgt := 55) (by decide +kernel) (by decide) (fun h45 => ?_) (fun h45 => ?_)
      · have h45 : (E2 np pd) < np := zz_bL_t (by omega) (by omega) h45
        refine Ev.run [(.iload_n 2, 1)] (pc' := 56) (L' := [some (.ref 0), some (.int (nI (E1 np pd))), some (.int (nI (E2 np pd)))]) (S' := [.int (nI (E2 np pd))]) rfl (by decide +kernel) rfl ?_
        refine Ev.goto (off := 5) (tgt := 61) (by decide +kernel) (by decide) ?_
        exact Ev.iret rfl (by decide +kernel) (⟨by rw [fP, if_neg (fun q => q.elim h9 (fun q2 => q2 h22)), if_pos (by omega)]; rfl, rfl⟩)
      · have h45 : (E2 np pd) ≥ np := zz_bL_f (by omega) (by omega) h45
        refine Ev.run [(.iload_n 2, 1), (.iload_n 1, 1), (.iconst 1, 1), (.iadd, 1)] (pc' := 52) (L' := [some (.ref 0), some (.int (nI (E1 np pd))), some (.int (nI (E2 np pd)))]) (S' := [.int (nI (E1 np pd) + nI 1), .int (nI (E2 np pd))]) rfl (by decide +kernel) rfl ?_
        rw [nI_add (E1 np pd) 1]
        refine Ev.icmp_ne (off := 7) (tgt := 59) (by decide +kernel) (by decide) (fun h52 => ?_) (fun h52 => ?_)
        · have h52 : ¬ (E2 np pd) = ((E1 np pd) + 1) := zz_bE_f (by omega) (by omega) h52
          refine Ev.run [(.bipush (-6), 2)] (pc' := 61) (L' := [some (.ref 0), some (.int (nI (E1 np pd))), some (.int (nI (E2 np pd)))]) (S' := [.int ((-6))]) rfl (by decide +kernel) rfl ?_
          exact Ev.iret rfl (by decide +kernel) (⟨by rw [fP, if_neg (fun q => q.elim h9 (fun q2 => q2 h22)), if_neg (by omega)]; rfl, rfl⟩)
        · have h52 : (E2 np pd) = ((E1 np pd) + 1) := zz_bE_t (by omega) (by omega) h52
          refine Ev.run [(.iload_n 2, 1)] (pc' := 56) (L' := [some (.ref 0), some (.int (nI (E1 np pd))), some (.int (nI (E2 np pd)))]) (S' := [.int (nI (E2 np pd))]) rfl (by decide +kernel) rfl ?_
          refine Ev.goto (off := 5) (tgt := 61) (by decide +kernel) (by decide) ?_
          exact Ev.iret rfl (by decide +kernel) (⟨by rw [fP, if_neg (fun q => q.elim h9 (fun q2 => q2 h22)), if_pos (by omega)]; rfl, rfl⟩)
    · rw [zz_p61 hP hnp hpr (by omega)] at h22
      refine Ev.run [(.iload_n 1, 1)] (pc' := 26) (L' := [some (.ref 0), some (.int (nI (E1 np pd))), none]) (S' := [.int (nI (E1 np pd))]) rfl (by decide +kernel) rfl ?_
      exact Ev.iret rfl (by decide +kernel) (⟨by rw [fP, if_pos (Or.inr h22)]; rfl, rfl⟩)

set_option maxRecDepth 100000 in
set_option maxHeartbeats 4000000 in
theorem c_X6_fault_0 {sc : Nat × (Nat → Int32)} {d : Nat} (I : Nat → Nat → Int32) (J : Nat → Nat → Int64) (np : Nat) (pd : Nat → Nat) (hP : zz_rf I 1 np pd) (hnp : np ≤ 30) (hpr : ∀ j, j < np → 33 ≤ pd j ∧ pd j ≤ 126) : EvM sc (d + 4) 0 0 mX6_fault [.ref 0, .int (nI 0)] (zz_SH, I, J) (zz_is (.int (ob (fS np pd))) (zz_SH, I, J)) := by
  refine EvM.of (by decide) rfl (Nat.le_of_ble_eq_true rfl) ?_
  show Ev _ _ _ _ _ 0 [some (.ref 0), some (.int (nI 0))] [] (zz_SH, I, J) _
  refine Ev.run [(.iload_n 1, 1)] (pc' := 1) (L' := [some (.ref 0), some (.int (nI 0))]) (S' := [.int (nI 0)]) rfl (by decide +kernel) rfl ?_
  refine Ev.if_ne (off := 8) (tgt := 9) (by decide +kernel) (by decide) (fun h1 => absurd h1 (by decide)) (fun h1 => ?_)
  refine Ev.run [(.aload_n 0, 1)] (pc' := 5) (L' := [some (.ref 0), some (.int (nI 0))]) (S' := [.ref 0]) rfl (by decide +kernel) rfl ?_
  refine Ev.callV0 mX6_faultAsSentence [] [] _ rfl lk_RX6_62 (by decide +kernel) (rfl) rfl rfl rfl (Nat.le_of_ble_eq_true rfl) (c_X6_faultAsSentence I J np pd hP hnp hpr) ?_
  rintro _ _ ⟨rfl, rfl⟩
  show Ev _ _ _ _ _ 8 [some (.ref 0), some (.int (nI 0))] [.int (ob (fS np pd))] (zz_SH, I, J) _
  exact Ev.iret rfl (by decide +kernel) (⟨rfl, rfl⟩)

set_option maxRecDepth 100000 in
set_option maxHeartbeats 4000000 in
theorem c_X6_fault_1 {sc : Nat × (Nat → Int32)} {d : Nat} (I : Nat → Nat → Int32) (J : Nat → Nat → Int64) (np : Nat) (pd : Nat → Nat) (hP : zz_rf I 1 np pd) (hnp : np ≤ 30) (hpr : ∀ j, j < np → 33 ≤ pd j ∧ pd j ≤ 126) : EvM sc (d + 4) 0 0 mX6_fault [.ref 0, .int (nI 1)] (zz_SH, I, J) (zz_is (.int (ob (fP np pd))) (zz_SH, I, J)) := by
  refine EvM.of (by decide) rfl (Nat.le_of_ble_eq_true rfl) ?_
  show Ev _ _ _ _ _ 0 [some (.ref 0), some (.int (nI 1))] [] (zz_SH, I, J) _
  refine Ev.run [(.iload_n 1, 1)] (pc' := 1) (L' := [some (.ref 0), some (.int (nI 1))]) (S' := [.int (nI 1)]) rfl (by decide +kernel) rfl ?_
  refine Ev.if_ne (off := 8) (tgt := 9) (by decide +kernel) (by decide) (fun h1 => ?_) (fun h1 => absurd h1 (by decide))
  refine Ev.run [(.iload_n 1, 1), (.iconst 1, 1)] (pc' := 11) (L' := [some (.ref 0), some (.int (nI 1))]) (S' := [.int (nI 1), .int (nI 1)]) rfl (by decide +kernel) rfl ?_
  refine Ev.icmp_ne (off := 10) (tgt := 21) (by decide +kernel) (by decide) (fun h11 => absurd h11 (by decide)) (fun h11 => ?_)
  refine Ev.run [(.aload_n 0, 1)] (pc' := 15) (L' := [some (.ref 0), some (.int (nI 1))]) (S' := [.ref 0]) rfl (by decide +kernel) rfl ?_
  refine Ev.callV0 mX6_faultAsPair [] [] _ rfl lk_RX6_66 (by decide +kernel) (rfl) rfl rfl rfl (Nat.le_of_ble_eq_true rfl) (c_X6_faultAsPair I J np pd hP hnp hpr) ?_
  rintro _ _ ⟨rfl, rfl⟩
  show Ev _ _ _ _ _ 18 [some (.ref 0), some (.int (nI 1))] [.int (ob (fP np pd))] (zz_SH, I, J) _
  refine Ev.goto (off := 5) (tgt := 23) (by decide +kernel) (by decide) ?_
  exact Ev.iret rfl (by decide +kernel) (⟨rfl, rfl⟩)

set_option maxRecDepth 100000 in
set_option maxHeartbeats 4000000 in
theorem c_X6_fault_o {sc : Nat × (Nat → Int32)} {d : Nat} (I : Nat → Nat → Int32) (J : Nat → Nat → Int64) (x : Int32) (hx : ¬ zz_ix x 2) : EvM sc (d + 4) 0 0 mX6_fault [.ref 0, .int x] (zz_SH, I, J) (zz_is (.int (-2)) (zz_SH, I, J)) := by
  refine EvM.of (by decide) rfl (Nat.le_of_ble_eq_true rfl) ?_
  show Ev _ _ _ _ _ 0 [some (.ref 0), some (.int x)] [] (zz_SH, I, J) _
  refine Ev.run [(.iload_n 1, 1)] (pc' := 1) (L' := [some (.ref 0), some (.int x)]) (S' := [.int x]) rfl (by decide +kernel) rfl ?_
  refine Ev.if_ne (off := 8) (tgt := 9) (by decide +kernel) (by decide) (fun h1 => ?_) (fun h1 => ?_)
  · refine Ev.run [(.iload_n 1, 1), (.iconst 1, 1)] (pc' := 11) (L' := [some (.ref 0), some (.int x)]) (S' := [.int (nI 1), .int x]) rfl (by decide +kernel) rfl ?_
    refine Ev.icmp_ne (off := 10) (tgt := 21) (by decide +kernel) (by decide) (fun h11 => ?_) (fun h11 => ?_)
    · refine Ev.run [(.bipush (-2), 2)] (pc' := 23) (L' := [some (.ref 0), some (.int x)]) (S' := [.int ((-2))]) rfl (by decide +kernel) rfl ?_
      exact Ev.iret rfl (by decide +kernel) (⟨rfl, rfl⟩)
    · exact absurd ⟨1, by decide, h11⟩ hx
  · exact absurd ⟨0, by decide, h1⟩ hx
