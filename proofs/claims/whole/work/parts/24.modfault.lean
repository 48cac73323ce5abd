/-! ===== the pad's faults ===== -/
def stn (tg x : Nat) : Bool := decide ((48 ≤ x ∧ x ≤ 57) ∨ (tg ≤ x ∧ x ≤ tg + 15))
theorem stn_y {tg x : Nat} (h : (48 ≤ x ∧ x ≤ 57) ∨ (tg ≤ x ∧ x ≤ tg + 15)) : stn tg x = true := decide_eq_true h
theorem stn_n {tg x : Nat} (h1 : ¬ (48 ≤ x ∧ x ≤ 57)) (h2 : ¬ (tg ≤ x ∧ x ≤ tg + 15)) : stn tg x = false := decide_eq_false (fun q => q.elim h1 h2)
def et (np : Nat) (pd : Nat → Nat) (tg : Nat) : Nat → Nat → Nat
  | 0, pl => pl
  | k + 1, pl => if pl < np ∧ stn tg (pd pl) = true then et np pd tg k (pl + 1) else pl
theorem et_np {np : Nat} {pd : Nat → Nat} {tg k pl : Nat} (h : ¬ pl < np) : et np pd tg k pl = pl := by
  cases k with
  | zero => rfl
  | succ k => rw [et, if_neg (fun q => h q.1)]
theorem et_no {np : Nat} {pd : Nat → Nat} {tg k pl : Nat} (h : stn tg (pd pl) = false) : et np pd tg k pl = pl := by
  cases k with
  | zero => rfl
  | succ k => rw [et, if_neg (fun q => by rw [h] at q; cases q.2)]
theorem et_st {np : Nat} {pd : Nat → Nat} {tg k pl : Nat} (hk : 0 < k) (h1 : pl < np) (h2 : stn tg (pd pl) = true) : et np pd tg k pl = et np pd tg (k - 1) (pl + 1) := by
  obtain ⟨j, rfl⟩ : ∃ j, k = j + 1 := ⟨k - 1, by omega⟩
  rw [et, if_pos ⟨h1, h2⟩]; rfl
theorem et_b (np : Nat) (pd : Nat → Nat) (tg : Nat) : ∀ k pl, pl ≤ np → pl ≤ et np pd tg k pl ∧ et np pd tg k pl ≤ pl + k ∧ et np pd tg k pl ≤ np
  | 0, pl, h => ⟨Nat.le_refl _, Nat.le_refl _, h⟩
  | k + 1, pl, h => by
    rw [et]
    split
    · next q =>
      have := et_b np pd tg k (pl + 1) (by omega)
      omega
    · omega
def E1 (np : Nat) (pd : Nat → Nat) : Nat := et np pd 97 12 0
def E2 (np : Nat) (pd : Nat → Nat) : Nat := et np pd 65 12 (E1 np pd + 1)
def fS (np : Nat) (pd : Nat → Nat) : Option Nat := if E1 np pd < np ∨ E1 np pd = 0 then some (E1 np pd) else none
def fP (np : Nat) (pd : Nat → Nat) : Option Nat := if E1 np pd = 0 ∨ ¬ (E1 np pd < np ∧ pd (E1 np pd) = 61) then some (E1 np pd) else if E2 np pd < np ∨ E2 np pd = E1 np pd + 1 then some (E2 np pd) else none
def zS7 (I I' : Nat → Nat → Int32) : Prop := (∀ c, c ≠ 359 → I' c = I c) ∧ ∀ j, j ≠ 15 → I' 359 j = I 359 j
theorem zS7.rf (I : Nat → Nat → Int32) : zS7 I I := ⟨fun _ _ => rfl, fun _ _ => rfl⟩
theorem zS7.tr {I I' I'' : Nat → Nat → Int32} (h : zS7 I I') (h' : zS7 I' I'') : zS7 I I'' := ⟨fun c h1 => (h'.1 c h1).trans (h.1 c h1), fun j h1 => (h'.2 j h1).trans (h.2 j h1)⟩
theorem zS7.up (I : Nat → Nat → Int32) (v : Int32) : zS7 I (zz_up I 359 15 v) := ⟨fun c h1 => zz_up_ne h1, fun i h1 => by rw [zz_up_eq, zz_upn h1]⟩
theorem zS7.sc {I I' : Nat → Nat → Int32} (h : zS7 I I') : zSc I I' := ⟨fun c hc => h.1 c (by omega), h.1 360 (by decide), fun c h1 h2 => h.1 c (by omega), h.1 379 (by decide), h.1 380 (by decide), h.2 0 (by decide), h.2 2 (by decide), h.2 8 (by decide)⟩

set_option maxRecDepth 100000 in
set_option maxHeartbeats 4000000 in
theorem l_X7_fA0 {sc : Nat × (Nat → Int32)} {d : Nat} (I : Nat → Nat → Int32) (J : Nat → Nat → Int64) (np : Nat) (pd : Nat → Nat) (hn : I 359 0 = nI np) (hpd : ∀ j, j < np → I 360 j = nI (pd j)) (hnp : np ≤ 30) (hpr : ∀ j, j < np → 33 ≤ pd j ∧ pd j ≤ 126) : ∀ (μ : Nat) (k : Nat) (I1 : Nat → Nat → Int32), np - k < μ → (k ≤ np) → (k ≤ 12) → (zS7 I I1) → (I1 359 15 = (-6)) → (E1 np pd = et np pd 97 (12 - k) k) →  Ev sc (d + 2) 0 0 mX7_faultOf 10 [some (.ref 359), some (.int (nI 0)), some (.int (nI k)), some (.int (nI k)), none, none] [] (zz_SH, I1, J) (fun r σ => r = some (.int (ob (fS np pd))) ∧ ∃ I' : Nat → Nat → Int32, zS7 I I' ∧ σ = (zz_SH, I', J)) := by
  intro μ
  induction μ with
  | zero => intro k I1 hμ; exact absurd hμ (Nat.not_lt_zero _)
  | succ μ ih =>
    intro k I1 hμ hk hk2 hs hh hE
    refine Ev.run [(.iload_n 3, 1), (.aload_n 0, 1), (.getfield 86, 3)] (pc' := 15) (L' := [some (.ref 359), some (.int (nI 0)), some (.int (nI k)), some (.int (nI k)), none, none]) (S' := [.int (I1 359 0), .int (nI k)]) rfl (by decide +kernel) rfl ?_
    rw [show I1 359 0 = nI np from by rw [hs.2 0 (by decide)]; exact hn]
    refine Ev.icmp_ge (off := 120) (tgt := 135) (by decide +kernel) (by decide) (fun h15 => ?_) (fun h15 => ?_)
    · have h15 : k ≥ np := zz_bG_t (by omega) (by omega) h15
      refine Ev.run [(.iload_n 2, 1)] (pc' := 136) (L' := [some (.ref 359), some (.int (nI 0)), some (.int (nI k)), some (.int (nI k)), none, none]) (S' := [.int (nI k)]) rfl (by decide +kernel) rfl ?_
      refine Ev.if_le (off := 19) (tgt := 155) (by decide +kernel) (by decide) (fun h136 => ?_) (fun h136 => ?_)
      · have h136 : k ≤ 0 := zz_bG'_t (by omega) (by omega) h136
        refine Ev.run [(.aload_n 0, 1), (.getfield 86, 3)] (pc' := 159) (L' := [some (.ref 359), some (.int (nI 0)), some (.int (nI k)), some (.int (nI k)), none, none]) (S' := [.int (I1 359 0)]) rfl (by decide +kernel) rfl ?_
        rw [show I1 359 0 = nI np from by rw [hs.2 0 (by decide)]; exact hn]
        exact Ev.iret rfl (by decide +kernel) (⟨by have e1 : E1 np pd = k := hE.trans (et_np (by omega)); rw [fS, if_pos (by omega), e1, show k = np by omega]; rfl, I1, hs, rfl⟩)
      · have h136 : k > 0 := zz_bG'_f (by omega) (by omega) h136
        refine Ev.run [(.iload_n 1, 1)] (pc' := 140) (L' := [some (.ref 359), some (.int (nI 0)), some (.int (nI k)), some (.int (nI k)), none, none]) (S' := [.int (nI 0)]) rfl (by decide +kernel) rfl ?_
        refine Ev.if_eq (off := 10) (tgt := 150) (by decide +kernel) (by decide) (fun h140 => ?_) (fun h140 => absurd h140 (by decide))
        refine Ev.run [(.bipush (-6), 2)] (pc' := 152) (L' := [some (.ref 359), some (.int (nI 0)), some (.int (nI k)), some (.int (nI k)), none, none]) (S' := [.int ((-6))]) rfl (by decide +kernel) rfl ?_
        refine Ev.goto (off := 7) (tgt := 159) (by decide +kernel) (by decide) ?_
        exact Ev.iret rfl (by decide +kernel) (⟨by have e1 : E1 np pd = k := hE.trans (et_np (by omega)); rw [fS, if_neg (by omega)]; rfl, I1, hs, rfl⟩)
    · have h15 : k < np := zz_bG_f (by omega) (by omega) h15
      have r1 := hpr (k) (by omega)
      refine Ev.run [(.aload_n 0, 1), (.getfield 7, 3), (.iload_n 3, 1)] (pc' := 23) (L' := [some (.ref 359), some (.int (nI 0)), some (.int (nI k)), some (.int (nI k)), none, none]) (S' := [.int (nI k), .ref 360]) rfl (by decide +kernel) rfl ?_
      refine Ev.iald k (by decide +kernel) (rfl) (rfl) (by omega) (by first | decide | omega) ?_
      dsimp only
      rw [show I1 360 (k) = nI (pd (k)) from by rw [hs.1 360 (by decide)]; exact hpd _ (by omega)]
      refine Ev.run [(.istore 4, 2), (.iload_n 2, 1), (.bipush 12, 2)] (pc' := 29) (L' := [some (.ref 359), some (.int (nI 0)), some (.int (nI k)), some (.int (nI k)), some (.int (nI (pd k))), none]) (S' := [.int (nI 12), .int (nI k)]) rfl (by decide +kernel) rfl ?_
      refine Ev.icmp_ge (off := 49) (tgt := 78) (by decide +kernel) (by decide) (fun h29 => ?_) (fun h29 => ?_)
      · have h29 : k ≥ 12 := zz_bG_t (by omega) (by omega) h29
        refine Ev.run [(.iconst 0, 1), (.istore 5, 2), (.iload_n 1, 1), (.iconst 1, 1)] (pc' := 83) (L' := [some (.ref 359), some (.int (nI 0)), some (.int (nI k)), some (.int (nI k)), some (.int (nI (pd k))), some (.int (nI 0))]) (S' := [.int (nI 1), .int (nI 0)]) rfl (by decide +kernel) rfl ?_
        refine Ev.icmp_ne (off := 33) (tgt := 116) (by decide +kernel) (by decide) (fun h83 => ?_) (fun h83 => absurd h83 (by decide))
        refine Ev.run [(.iload 5, 2)] (pc' := 118) (L' := [some (.ref 359), some (.int (nI 0)), some (.int (nI k)), some (.int (nI k)), some (.int (nI (pd k))), some (.int (nI 0))]) (S' := [.int (nI 0)]) rfl (by decide +kernel) rfl ?_
        refine Ev.if_eq (off := 9) (tgt := 127) (by decide +kernel) (by decide) (fun h118 => ?_) (fun h118 => absurd h118 (by decide))
        refine Ev.run [(.iload_n 3, 1)] (pc' := 128) (L' := [some (.ref 359), some (.int (nI 0)), some (.int (nI k)), some (.int (nI k)), some (.int (nI (pd k))), some (.int (nI 0))]) (S' := [.int (nI k)]) rfl (by decide +kernel) rfl ?_
        exact Ev.iret rfl (by decide +kernel) (⟨by have e1 : E1 np pd = k := hE.trans (by rw [show 12 - k = 0 by omega]; rfl); rw [fS, if_pos (by omega), e1]; rfl, I1, hs, rfl⟩)
      · have h29 : k < 12 := zz_bG_f (by omega) (by omega) h29
        refine Ev.run [(.iload 4, 2)] (pc' := 34) (L' := [some (.ref 359), some (.int (nI 0)), some (.int (nI k)), some (.int (nI k)), some (.int (nI (pd k))), none]) (S' := [.int (nI (pd k))]) rfl (by decide +kernel) rfl ?_
        refine Ev.callS0 mX7_isNumber [.int (nI (pd k))] [] _ rfl lk_RX7_92 (by decide +kernel) rfl (Nat.le_of_ble_eq_true rfl) (c_X7_isNumber I1 J (nI (pd k))) ?_
        rintro _ _ ⟨rfl, ⟨rfl, h34⟩ | ⟨rfl, h34⟩⟩
        · show Ev _ _ _ _ _ 37 [some (.ref 359), some (.int (nI 0)), some (.int (nI k)), some (.int (nI k)), some (.int (nI (pd k))), none] [.int (nI 1)] (zz_SH, I1, J) _
          rw [zz_num (by omega)] at h34
          refine Ev.if_ne (off := 37) (tgt := 74) (by decide +kernel) (by decide) (fun h37 => ?_) (fun h37 => absurd h37 (by decide))
          refine Ev.run [(.iconst 1, 1)] (pc' := 75) (L' := [some (.ref 359), some (.int (nI 0)), some (.int (nI k)), some (.int (nI k)), some (.int (nI (pd k))), none]) (S' := [.int (nI 1)]) rfl (by decide +kernel) rfl ?_
          refine Ev.goto (off := 4) (tgt := 79) (by decide +kernel) (by decide) ?_
          refine Ev.run [(.istore 5, 2), (.iload_n 1, 1), (.iconst 1, 1)] (pc' := 83) (L' := [some (.ref 359), some (.int (nI 0)), some (.int (nI k)), some (.int (nI k)), some (.int (nI (pd k))), some (.int (nI 1))]) (S' := [.int (nI 1), .int (nI 0)]) rfl (by decide +kernel) rfl ?_
          refine Ev.icmp_ne (off := 33) (tgt := 116) (by decide +kernel) (by decide) (fun h83 => ?_) (fun h83 => absurd h83 (by decide))
          refine Ev.run [(.iload 5, 2)] (pc' := 118) (L' := [some (.ref 359), some (.int (nI 0)), some (.int (nI k)), some (.int (nI k)), some (.int (nI (pd k))), some (.int (nI 1))]) (S' := [.int (nI 1)]) rfl (by decide +kernel) rfl ?_
          refine Ev.if_eq (off := 9) (tgt := 127) (by decide +kernel) (by decide) (fun h118 => absurd h118 (by decide)) (fun h118 => ?_)
          refine Ev.run [(.iinc 2 1, 3)] (pc' := 124) (L' := [some (.ref 359), some (.int (nI 0)), some (.int (nI k + 1)), some (.int (nI k)), some (.int (nI (pd k))), some (.int (nI 1))]) (S' := []) rfl (by decide +kernel) rfl ?_
          rw [nI_1 k]
          refine Ev.goto (off := 5) (tgt := 129) (by decide +kernel) (by decide) ?_
          refine Ev.run [(.iinc 3 1, 3)] (pc' := 132) (L' := [some (.ref 359), some (.int (nI 0)), some (.int (nI (k + 1))), some (.int (nI k + 1)), some (.int (nI (pd k))), some (.int (nI 1))]) (S' := []) rfl (by decide +kernel) rfl ?_
          rw [nI_1 k]
          refine Ev.goto (off := (-122)) (tgt := 10) (by decide +kernel) (by decide) ?_
          refine Ev.weakL (L' := [some (.ref 359), some (.int (nI 0)), some (.int (nI (k + 1))), some (.int (nI (k + 1))), none, none]) ⟨rfl, rfl, rfl, rfl, trivial⟩ ?_
          exact ih (k + 1) I1 (by omega) (by omega) (by omega) hs hh (by rw [hE, et_st (by omega) (by omega) (stn_y (Or.inl h34))]; rfl)
        · show Ev _ _ _ _ _ 37 [some (.ref 359), some (.int (nI 0)), some (.int (nI k)), some (.int (nI k)), some (.int (nI (pd k))), none] [.int (nI 0)] (zz_SH, I1, J) _
          rw [zz_num (by omega)] at h34
          refine Ev.if_ne (off := 37) (tgt := 74) (by decide +kernel) (by decide) (fun h37 => absurd h37 (by decide)) (fun h37 => ?_)
          refine Ev.run [(.aload_n 0, 1), (.getfield 89, 3)] (pc' := 44) (L' := [some (.ref 359), some (.int (nI 0)), some (.int (nI k)), some (.int (nI k)), some (.int (nI (pd k))), none]) (S' := [.int (I1 359 15)]) rfl (by decide +kernel) rfl ?_
          rw [hh]
          refine Ev.if_ge (off := 18) (tgt := 62) (by decide +kernel) (by decide) (fun h44 => absurd h44 (by decide)) (fun h44 => ?_)
          refine Ev.run [(.iload 4, 2), (.bipush 97, 2), (.bipush 112, 2)] (pc' := 53) (L' := [some (.ref 359), some (.int (nI 0)), some (.int (nI k)), some (.int (nI k)), some (.int (nI (pd k))), none]) (S' := [.int (nI 112), .int (nI 97), .int (nI (pd k))]) rfl (by decide +kernel) rfl ?_
          refine Ev.callS0 mX7_in [.int (nI (pd k)), .int (nI 97), .int (nI 112)] [] _ rfl lk_RX7_79 (by decide +kernel) rfl (Nat.le_of_ble_eq_true rfl) (c_X7_in I1 J (nI (pd k)) (nI 97) (nI 112)) ?_
          rintro _ _ ⟨rfl, ⟨rfl, h53⟩ | ⟨rfl, h53⟩⟩
          · show Ev _ _ _ _ _ 56 [some (.ref 359), some (.int (nI 0)), some (.int (nI k)), some (.int (nI k)), some (.int (nI (pd k))), none] [.int (nI 1)] (zz_SH, I1, J) _
            rw [zz_rng (by omega) (by omega) (by omega)] at h53
            refine Ev.if_eq (off := 22) (tgt := 78) (by decide +kernel) (by decide) (fun h56 => absurd h56 (by decide)) (fun h56 => ?_)
            refine Ev.goto (off := 15) (tgt := 74) (by decide +kernel) (by decide) ?_
            refine Ev.run [(.iconst 1, 1)] (pc' := 75) (L' := [some (.ref 359), some (.int (nI 0)), some (.int (nI k)), some (.int (nI k)), some (.int (nI (pd k))), none]) (S' := [.int (nI 1)]) rfl (by decide +kernel) rfl ?_
            refine Ev.goto (off := 4) (tgt := 79) (by decide +kernel) (by decide) ?_
            refine Ev.run [(.istore 5, 2), (.iload_n 1, 1), (.iconst 1, 1)] (pc' := 83) (L' := [some (.ref 359), some (.int (nI 0)), some (.int (nI k)), some (.int (nI k)), some (.int (nI (pd k))), some (.int (nI 1))]) (S' := [.int (nI 1), .int (nI 0)]) rfl (by decide +kernel) rfl ?_
            refine Ev.icmp_ne (off := 33) (tgt := 116) (by decide +kernel) (by decide) (fun h83 => ?_) (fun h83 => absurd h83 (by decide))
            refine Ev.run [(.iload 5, 2)] (pc' := 118) (L' := [some (.ref 359), some (.int (nI 0)), some (.int (nI k)), some (.int (nI k)), some (.int (nI (pd k))), some (.int (nI 1))]) (S' := [.int (nI 1)]) rfl (by decide +kernel) rfl ?_
            refine Ev.if_eq (off := 9) (tgt := 127) (by decide +kernel) (by decide) (fun h118 => absurd h118 (by decide)) (fun h118 => ?_)
            refine Ev.run [(.iinc 2 1, 3)] (pc' := 124) (L' := [some (.ref 359), some (.int (nI 0)), some (.int (nI k + 1)), some (.int (nI k)), some (.int (nI (pd k))), some (.int (nI 1))]) (S' := []) rfl (by decide +kernel) rfl ?_
            rw [nI_1 k]
            refine Ev.goto (off := 5) (tgt := 129) (by decide +kernel) (by decide) ?_
            refine Ev.run [(.iinc 3 1, 3)] (pc' := 132) (L' := [some (.ref 359), some (.int (nI 0)), some (.int (nI (k + 1))), some (.int (nI k + 1)), some (.int (nI (pd k))), some (.int (nI 1))]) (S' := []) rfl (by decide +kernel) rfl ?_
            rw [nI_1 k]
            refine Ev.goto (off := (-122)) (tgt := 10) (by decide +kernel) (by decide) ?_
            refine Ev.weakL (L' := [some (.ref 359), some (.int (nI 0)), some (.int (nI (k + 1))), some (.int (nI (k + 1))), none, none]) ⟨rfl, rfl, rfl, rfl, trivial⟩ ?_
            exact ih (k + 1) I1 (by omega) (by omega) (by omega) hs hh (by rw [hE, et_st (by omega) (by omega) (stn_y (Or.inr h53))]; rfl)
          · show Ev _ _ _ _ _ 56 [some (.ref 359), some (.int (nI 0)), some (.int (nI k)), some (.int (nI k)), some (.int (nI (pd k))), none] [.int (nI 0)] (zz_SH, I1, J) _
            rw [zz_rng (by omega) (by omega) (by omega)] at h53
            refine Ev.if_eq (off := 22) (tgt := 78) (by decide +kernel) (by decide) (fun h56 => ?_) (fun h56 => absurd h56 (by decide))
            refine Ev.run [(.iconst 0, 1), (.istore 5, 2), (.iload_n 1, 1), (.iconst 1, 1)] (pc' := 83) (L' := [some (.ref 359), some (.int (nI 0)), some (.int (nI k)), some (.int (nI k)), some (.int (nI (pd k))), some (.int (nI 0))]) (S' := [.int (nI 1), .int (nI 0)]) rfl (by decide +kernel) rfl ?_
            refine Ev.icmp_ne (off := 33) (tgt := 116) (by decide +kernel) (by decide) (fun h83 => ?_) (fun h83 => absurd h83 (by decide))
            refine Ev.run [(.iload 5, 2)] (pc' := 118) (L' := [some (.ref 359), some (.int (nI 0)), some (.int (nI k)), some (.int (nI k)), some (.int (nI (pd k))), some (.int (nI 0))]) (S' := [.int (nI 0)]) rfl (by decide +kernel) rfl ?_
            refine Ev.if_eq (off := 9) (tgt := 127) (by decide +kernel) (by decide) (fun h118 => ?_) (fun h118 => absurd h118 (by decide))
            refine Ev.run [(.iload_n 3, 1)] (pc' := 128) (L' := [some (.ref 359), some (.int (nI 0)), some (.int (nI k)), some (.int (nI k)), some (.int (nI (pd k))), some (.int (nI 0))]) (S' := [.int (nI k)]) rfl (by decide +kernel) rfl ?_
            exact Ev.iret rfl (by decide +kernel) (⟨by have e1 : E1 np pd = k := hE.trans (et_no (stn_n h34 h53)); rw [fS, if_pos (by omega), e1]; rfl, I1, hs, rfl⟩)

set_option maxRecDepth 100000 in
set_option maxHeartbeats 4000000 in
theorem c_X7_faultOf_0 {sc : Nat × (Nat → Int32)} {d : Nat} (I : Nat → Nat → Int32) (J : Nat → Nat → Int64) (np : Nat) (pd : Nat → Nat) (hn : I 359 0 = nI np) (hpd : ∀ j, j < np → I 360 j = nI (pd j)) (hnp : np ≤ 30) (hpr : ∀ j, j < np → 33 ≤ pd j ∧ pd j ≤ 126) : EvM sc (d + 2) 0 0 mX7_faultOf [.ref 359, .int (nI 0)] (zz_SH, I, J) (fun r σ => r = some (.int (ob (fS np pd))) ∧ ∃ I' : Nat → Nat → Int32, zS7 I I' ∧ σ = (zz_SH, I', J)) := by
  refine EvM.of (by decide) rfl (Nat.le_of_ble_eq_true rfl) ?_
  show Ev _ _ _ _ _ 0 [some (.ref 359), some (.int (nI 0)), none, none, none, none] [] (zz_SH, I, J) _
  refine Ev.run [(.aload_n 0, 1), (.bipush (-6), 2)] (pc' := 3) (L' := [some (.ref 359), some (.int (nI 0)), none, none, none, none]) (S' := [.int ((-6)), .ref 359]) rfl (by decide +kernel) rfl ?_
  refine Ev.putf (idx := 89) rfl rfl rfl (by decide +kernel) (rfl) rfl ?_
  dsimp only
  refine Ev.run [(.iconst 0, 1), (.istore_n 2, 1), (.iconst 0, 1), (.istore_n 3, 1)] (pc' := 10) (L' := [some (.ref 359), some (.int (nI 0)), some (.int (nI 0)), some (.int (nI 0)), none, none]) (S' := []) rfl (by decide +kernel) rfl ?_
  exact l_X7_fA0 I J np pd hn hpd hnp hpr (np + 1) 0 _ (by omega) (by omega) (by omega) (zS7.up I _) (by rw [zz_up_eq, zz_ups]) rfl

set_option maxRecDepth 100000 in
set_option maxHeartbeats 4000000 in
theorem l_X7_fB {sc : Nat × (Nat → Int32)} {d : Nat} (I : Nat → Nat → Int32) (J : Nat → Nat → Int64) (np : Nat) (pd : Nat → Nat) (hn : I 359 0 = nI np) (hpd : ∀ j, j < np → I 360 j = nI (pd j)) (hnp : np ≤ 30) (hpr : ∀ j, j < np → 33 ≤ pd j ∧ pd j ≤ 126) (e : Nat) (he : E1 np pd = e) (he0 : 0 < e) (hen : e < np) (hpe : pd e = 61) : ∀ (μ : Nat) (n : Nat) (I1 : Nat → Nat → Int32), np - (e + 1 + n) < μ → (n ≤ 12) → (e + 1 + n ≤ np) → (zS7 I I1) → (I1 359 15 = nI (e + 1)) → (E2 np pd = et np pd 65 (12 - n) (e + 1 + n)) →  Ev sc (d + 2) 0 0 mX7_faultOf 10 [some (.ref 359), some (.int (nI 1)), some (.int (nI n)), some (.int (nI (e + 1 + n))), none, none] [] (zz_SH, I1, J) (fun r σ => r = some (.int (ob (fP np pd))) ∧ ∃ I' : Nat → Nat → Int32, zS7 I I' ∧ (fP np pd = none → I' 359 15 = nI (E1 np pd + 1)) ∧ σ = (zz_SH, I', J)) := by
  intro μ
  induction μ with
  | zero => intro n I1 hμ; exact absurd hμ (Nat.not_lt_zero _)
  | succ μ ih =>
    intro n I1 hμ hn1 hn2 hs hh hE
    refine Ev.run [(.iload_n 3, 1), (.aload_n 0, 1), (.getfield 86, 3)] (pc' := 15) (L' := [some (.ref 359), some (.int (nI 1)), some (.int (nI n)), some (.int (nI (e + 1 + n))), none, none]) (S' := [.int (I1 359 0), .int (nI (e + 1 + n))]) rfl (by decide +kernel) rfl ?_
    rw [show I1 359 0 = nI np from by rw [hs.2 0 (by decide)]; exact hn]
    refine Ev.icmp_ge (off := 120) (tgt := 135) (by decide +kernel) (by decide) (fun h15 => ?_) (fun h15 => ?_)
    · have h15 : (e + 1 + n) ≥ np := zz_bG_t (by omega) (by omega) h15
      refine Ev.run [(.iload_n 2, 1)] (pc' := 136) (L' := [some (.ref 359), some (.int (nI 1)), some (.int (nI n)), some (.int (nI (e + 1 + n))), none, none]) (S' := [.int (nI n)]) rfl (by decide +kernel) rfl ?_
      refine Ev.if_le (off := 19) (tgt := 155) (by decide +kernel) (by decide) (fun h136 => ?_) (fun h136 => ?_)
      · have h136 : n ≤ 0 := zz_bG'_t (by omega) (by omega) h136
        refine Ev.run [(.aload_n 0, 1), (.getfield 86, 3)] (pc' := 159) (L' := [some (.ref 359), some (.int (nI 1)), some (.int (nI n)), some (.int (nI (e + 1 + n))), none, none]) (S' := [.int (I1 359 0)]) rfl (by decide +kernel) rfl ?_
        rw [show I1 359 0 = nI np from by rw [hs.2 0 (by decide)]; exact hn]
        exact Ev.iret rfl (by decide +kernel) (⟨by have e2 : E2 np pd = e + 1 + n := hE.trans (et_np (by omega)); rw [fP, if_neg (by rw [he]; omega), if_pos (by omega), e2, show e + 1 + n = np by omega]; rfl, I1, hs, (fun q => by have e2 : E2 np pd = e + 1 + n := hE.trans (et_np (by omega)); rw [fP, if_neg (by rw [he]; omega), if_pos (by omega)] at q; cases q), rfl⟩)
      · have h136 : n > 0 := zz_bG'_f (by omega) (by omega) h136
        refine Ev.run [(.iload_n 1, 1)] (pc' := 140) (L' := [some (.ref 359), some (.int (nI 1)), some (.int (nI n)), some (.int (nI (e + 1 + n))), none, none]) (S' := [.int (nI 1)]) rfl (by decide +kernel) rfl ?_
        refine Ev.if_eq (off := 10) (tgt := 150) (by decide +kernel) (by decide) (fun h140 => absurd h140 (by decide)) (fun h140 => ?_)
        refine Ev.run [(.aload_n 0, 1), (.getfield 89, 3)] (pc' := 147) (L' := [some (.ref 359), some (.int (nI 1)), some (.int (nI n)), some (.int (nI (e + 1 + n))), none, none]) (S' := [.int (I1 359 15)]) rfl (by decide +kernel) rfl ?_
        rw [hh]
        refine Ev.if_lt (off := 8) (tgt := 155) (by decide +kernel) (by decide) (fun h147 => ?_) (fun h147 => ?_)
        · have h147 : (e + 1) < 0 := zz_bL_t (by omega) (by omega) h147
          exfalso; omega
        · have h147 : (e + 1) ≥ 0 := zz_bL_f (by omega) (by omega) h147
          refine Ev.run [(.bipush (-6), 2)] (pc' := 152) (L' := [some (.ref 359), some (.int (nI 1)), some (.int (nI n)), some (.int (nI (e + 1 + n))), none, none]) (S' := [.int ((-6))]) rfl (by decide +kernel) rfl ?_
          refine Ev.goto (off := 7) (tgt := 159) (by decide +kernel) (by decide) ?_
          exact Ev.iret rfl (by decide +kernel) (⟨by have e2 : E2 np pd = e + 1 + n := hE.trans (et_np (by omega)); rw [fP, if_neg (by rw [he]; omega), if_neg (by omega)]; rfl, I1, hs, fun _ => by rw [he]; exact hh, rfl⟩)
    · have h15 : (e + 1 + n) < np := zz_bG_f (by omega) (by omega) h15
      have r1 := hpr (e + 1 + n) (by omega)
      refine Ev.run [(.aload_n 0, 1), (.getfield 7, 3), (.iload_n 3, 1)] (pc' := 23) (L' := [some (.ref 359), some (.int (nI 1)), some (.int (nI n)), some (.int (nI (e + 1 + n))), none, none]) (S' := [.int (nI (e + 1 + n)), .ref 360]) rfl (by decide +kernel) rfl ?_
      refine Ev.iald (e + 1 + n) (by decide +kernel) (rfl) (rfl) (by omega) (by first | decide | omega) ?_
      dsimp only
      rw [show I1 360 (e + 1 + n) = nI (pd (e + 1 + n)) from by rw [hs.1 360 (by decide)]; exact hpd _ (by omega)]
      refine Ev.run [(.istore 4, 2), (.iload_n 2, 1), (.bipush 12, 2)] (pc' := 29) (L' := [some (.ref 359), some (.int (nI 1)), some (.int (nI n)), some (.int (nI (e + 1 + n))), some (.int (nI (pd (e + 1 + n)))), none]) (S' := [.int (nI 12), .int (nI n)]) rfl (by decide +kernel) rfl ?_
      refine Ev.icmp_ge (off := 49) (tgt := 78) (by decide +kernel) (by decide) (fun h29 => ?_) (fun h29 => ?_)
      · have h29 : n ≥ 12 := zz_bG_t (by omega) (by omega) h29
        refine Ev.run [(.iconst 0, 1), (.istore 5, 2), (.iload_n 1, 1), (.iconst 1, 1)] (pc' := 83) (L' := [some (.ref 359), some (.int (nI 1)), some (.int (nI n)), some (.int (nI (e + 1 + n))), some (.int (nI (pd (e + 1 + n)))), some (.int (nI 0))]) (S' := [.int (nI 1), .int (nI 1)]) rfl (by decide +kernel) rfl ?_
        refine Ev.icmp_ne (off := 33) (tgt := 116) (by decide +kernel) (by decide) (fun h83 => absurd h83 (by decide)) (fun h83 => ?_)
        refine Ev.run [(.aload_n 0, 1), (.getfield 89, 3)] (pc' := 90) (L' := [some (.ref 359), some (.int (nI 1)), some (.int (nI n)), some (.int (nI (e + 1 + n))), some (.int (nI (pd (e + 1 + n)))), some (.int (nI 0))]) (S' := [.int (I1 359 15)]) rfl (by decide +kernel) rfl ?_
        rw [hh]
        refine Ev.if_ge (off := 26) (tgt := 116) (by decide +kernel) (by decide) (fun h90 => ?_) (fun h90 => ?_)
        · have h90 : (e + 1) ≥ 0 := zz_bG_t (by omega) (by omega) h90
          refine Ev.run [(.iload 5, 2)] (pc' := 118) (L' := [some (.ref 359), some (.int (nI 1)), some (.int (nI n)), some (.int (nI (e + 1 + n))), some (.int (nI (pd (e + 1 + n)))), some (.int (nI 0))]) (S' := [.int (nI 0)]) rfl (by decide +kernel) rfl ?_
          refine Ev.if_eq (off := 9) (tgt := 127) (by decide +kernel) (by decide) (fun h118 => ?_) (fun h118 => absurd h118 (by decide))
          refine Ev.run [(.iload_n 3, 1)] (pc' := 128) (L' := [some (.ref 359), some (.int (nI 1)), some (.int (nI n)), some (.int (nI (e + 1 + n))), some (.int (nI (pd (e + 1 + n)))), some (.int (nI 0))]) (S' := [.int (nI (e + 1 + n))]) rfl (by decide +kernel) rfl ?_
          exact Ev.iret rfl (by decide +kernel) (⟨by have e2 : E2 np pd = e + 1 + n := hE.trans (by rw [show 12 - n = 0 by omega]; rfl); rw [fP, if_neg (by rw [he]; omega), if_pos (by omega), e2]; rfl, I1, hs, (fun q => by have e2 : E2 np pd = e + 1 + n := hE.trans (by rw [show 12 - n = 0 by omega]; rfl); rw [fP, if_neg (by rw [he]; omega), if_pos (by omega)] at q; cases q), rfl⟩)
        · have h90 : (e + 1) < 0 := zz_bG_f (by omega) (by omega) h90
          exfalso; omega
      · have h29 : n < 12 := zz_bG_f (by omega) (by omega) h29
        refine Ev.run [(.iload 4, 2)] (pc' := 34) (L' := [some (.ref 359), some (.int (nI 1)), some (.int (nI n)), some (.int (nI (e + 1 + n))), some (.int (nI (pd (e + 1 + n)))), none]) (S' := [.int (nI (pd (e + 1 + n)))]) rfl (by decide +kernel) rfl ?_
        refine Ev.callS0 mX7_isNumber [.int (nI (pd (e + 1 + n)))] [] _ rfl lk_RX7_92 (by decide +kernel) rfl (Nat.le_of_ble_eq_true rfl) (c_X7_isNumber I1 J (nI (pd (e + 1 + n)))) ?_
        rintro _ _ ⟨rfl, ⟨rfl, h34⟩ | ⟨rfl, h34⟩⟩
        · show Ev _ _ _ _ _ 37 [some (.ref 359), some (.int (nI 1)), some (.int (nI n)), some (.int (nI (e + 1 + n))), some (.int (nI (pd (e + 1 + n)))), none] [.int (nI 1)] (zz_SH, I1, J) _
          rw [zz_num (by omega)] at h34
          refine Ev.if_ne (off := 37) (tgt := 74) (by decide +kernel) (by decide) (fun h37 => ?_) (fun h37 => absurd h37 (by decide))
          refine Ev.run [(.iconst 1, 1)] (pc' := 75) (L' := [some (.ref 359), some (.int (nI 1)), some (.int (nI n)), some (.int (nI (e + 1 + n))), some (.int (nI (pd (e + 1 + n)))), none]) (S' := [.int (nI 1)]) rfl (by decide +kernel) rfl ?_
          refine Ev.goto (off := 4) (tgt := 79) (by decide +kernel) (by decide) ?_
          refine Ev.run [(.istore 5, 2), (.iload_n 1, 1), (.iconst 1, 1)] (pc' := 83) (L' := [some (.ref 359), some (.int (nI 1)), some (.int (nI n)), some (.int (nI (e + 1 + n))), some (.int (nI (pd (e + 1 + n)))), some (.int (nI 1))]) (S' := [.int (nI 1), .int (nI 1)]) rfl (by decide +kernel) rfl ?_
          refine Ev.icmp_ne (off := 33) (tgt := 116) (by decide +kernel) (by decide) (fun h83 => absurd h83 (by decide)) (fun h83 => ?_)
          refine Ev.run [(.aload_n 0, 1), (.getfield 89, 3)] (pc' := 90) (L' := [some (.ref 359), some (.int (nI 1)), some (.int (nI n)), some (.int (nI (e + 1 + n))), some (.int (nI (pd (e + 1 + n)))), some (.int (nI 1))]) (S' := [.int (I1 359 15)]) rfl (by decide +kernel) rfl ?_
          rw [hh]
          refine Ev.if_ge (off := 26) (tgt := 116) (by decide +kernel) (by decide) (fun h90 => ?_) (fun h90 => ?_)
          · have h90 : (e + 1) ≥ 0 := zz_bG_t (by omega) (by omega) h90
            refine Ev.run [(.iload 5, 2)] (pc' := 118) (L' := [some (.ref 359), some (.int (nI 1)), some (.int (nI n)), some (.int (nI (e + 1 + n))), some (.int (nI (pd (e + 1 + n)))), some (.int (nI 1))]) (S' := [.int (nI 1)]) rfl (by decide +kernel) rfl ?_
            refine Ev.if_eq (off := 9) (tgt := 127) (by decide +kernel) (by decide) (fun h118 => absurd h118 (by decide)) (fun h118 => ?_)
            refine Ev.run [(.iinc 2 1, 3)] (pc' := 124) (L' := [some (.ref 359), some (.int (nI 1)), some (.int (nI n + 1)), some (.int (nI (e + 1 + n))), some (.int (nI (pd (e + 1 + n)))), some (.int (nI 1))]) (S' := []) rfl (by decide +kernel) rfl ?_
            rw [nI_1 n]
            refine Ev.goto (off := 5) (tgt := 129) (by decide +kernel) (by decide) ?_
            refine Ev.run [(.iinc 3 1, 3)] (pc' := 132) (L' := [some (.ref 359), some (.int (nI 1)), some (.int (nI (n + 1))), some (.int (nI (e + 1 + n) + 1)), some (.int (nI (pd (e + 1 + n)))), some (.int (nI 1))]) (S' := []) rfl (by decide +kernel) rfl ?_
            rw [nI_1 (e + 1 + n)]
            refine Ev.goto (off := (-122)) (tgt := 10) (by decide +kernel) (by decide) ?_
            refine Ev.weakL (L' := [some (.ref 359), some (.int (nI 1)), some (.int (nI (n + 1))), some (.int (nI ((e + 1 + n) + 1))), none, none]) ⟨rfl, rfl, rfl, rfl, trivial⟩ ?_
            rw [show e + 1 + n + 1 = e + 1 + (n + 1) by omega]
            exact ih (n + 1) I1 (by omega) (by omega) (by omega) hs hh (by rw [hE, et_st (by omega) (by omega) (stn_y (Or.inl h34))]; rfl)
          · have h90 : (e + 1) < 0 := zz_bG_f (by omega) (by omega) h90
            exfalso; omega
        · show Ev _ _ _ _ _ 37 [some (.ref 359), some (.int (nI 1)), some (.int (nI n)), some (.int (nI (e + 1 + n))), some (.int (nI (pd (e + 1 + n)))), none] [.int (nI 0)] (zz_SH, I1, J) _
          rw [zz_num (by omega)] at h34
          refine Ev.if_ne (off := 37) (tgt := 74) (by decide +kernel) (by decide) (fun h37 => absurd h37 (by decide)) (fun h37 => ?_)
          refine Ev.run [(.aload_n 0, 1), (.getfield 89, 3)] (pc' := 44) (L' := [some (.ref 359), some (.int (nI 1)), some (.int (nI n)), some (.int (nI (e + 1 + n))), some (.int (nI (pd (e + 1 + n)))), none]) (S' := [.int (I1 359 15)]) rfl (by decide +kernel) rfl ?_
          rw [hh]
          refine Ev.if_ge (off := 18) (tgt := 62) (by decide +kernel) (by decide) (fun h44 => ?_) (fun h44 => ?_)
          · have h44 : (e + 1) ≥ 0 := zz_bG_t (by omega) (by omega) h44
            refine Ev.run [(.iload 4, 2), (.bipush 65, 2), (.bipush 80, 2)] (pc' := 68) (L' := [some (.ref 359), some (.int (nI 1)), some (.int (nI n)), some (.int (nI (e + 1 + n))), some (.int (nI (pd (e + 1 + n)))), none]) (S' := [.int (nI 80), .int (nI 65), .int (nI (pd (e + 1 + n)))]) rfl (by decide +kernel) rfl ?_
            refine Ev.callS0 mX7_in [.int (nI (pd (e + 1 + n))), .int (nI 65), .int (nI 80)] [] _ rfl lk_RX7_79 (by decide +kernel) rfl (Nat.le_of_ble_eq_true rfl) (c_X7_in I1 J (nI (pd (e + 1 + n))) (nI 65) (nI 80)) ?_
            rintro _ _ ⟨rfl, ⟨rfl, h68⟩ | ⟨rfl, h68⟩⟩
            · show Ev _ _ _ _ _ 71 [some (.ref 359), some (.int (nI 1)), some (.int (nI n)), some (.int (nI (e + 1 + n))), some (.int (nI (pd (e + 1 + n)))), none] [.int (nI 1)] (zz_SH, I1, J) _
              rw [zz_rng (by omega) (by omega) (by omega)] at h68
              refine Ev.if_eq (off := 7) (tgt := 78) (by decide +kernel) (by decide) (fun h71 => absurd h71 (by decide)) (fun h71 => ?_)
              refine Ev.run [(.iconst 1, 1)] (pc' := 75) (L' := [some (.ref 359), some (.int (nI 1)), some (.int (nI n)), some (.int (nI (e + 1 + n))), some (.int (nI (pd (e + 1 + n)))), none]) (S' := [.int (nI 1)]) rfl (by decide +kernel) rfl ?_
              refine Ev.goto (off := 4) (tgt := 79) (by decide +kernel) (by decide) ?_
              refine Ev.run [(.istore 5, 2), (.iload_n 1, 1), (.iconst 1, 1)] (pc' := 83) (L' := [some (.ref 359), some (.int (nI 1)), some (.int (nI n)), some (.int (nI (e + 1 + n))), some (.int (nI (pd (e + 1 + n)))), some (.int (nI 1))]) (S' := [.int (nI 1), .int (nI 1)]) rfl (by decide +kernel) rfl ?_
              refine Ev.icmp_ne (off := 33) (tgt := 116) (by decide +kernel) (by decide) (fun h83 => absurd h83 (by decide)) (fun h83 => ?_)
              refine Ev.run [(.aload_n 0, 1), (.getfield 89, 3)] (pc' := 90) (L' := [some (.ref 359), some (.int (nI 1)), some (.int (nI n)), some (.int (nI (e + 1 + n))), some (.int (nI (pd (e + 1 + n)))), some (.int (nI 1))]) (S' := [.int (I1 359 15)]) rfl (by decide +kernel) rfl ?_
              rw [hh]
              refine Ev.if_ge (off := 26) (tgt := 116) (by decide +kernel) (by decide) (fun h90 => ?_) (fun h90 => ?_)
              · have h90 : (e + 1) ≥ 0 := zz_bG_t (by omega) (by omega) h90
                refine Ev.run [(.iload 5, 2)] (pc' := 118) (L' := [some (.ref 359), some (.int (nI 1)), some (.int (nI n)), some (.int (nI (e + 1 + n))), some (.int (nI (pd (e + 1 + n)))), some (.int (nI 1))]) (S' := [.int (nI 1)]) rfl (by decide +kernel) rfl ?_
                refine Ev.if_eq (off := 9) (tgt := 127) (by decide +kernel) (by decide) (fun h118 => absurd h118 (by decide)) (fun h118 => ?_)
                refine Ev.run [(.iinc 2 1, 3)] (pc' := 124) (L' := [some (.ref 359), some (.int (nI 1)), some (.int (nI n + 1)), some (.int (nI (e + 1 + n))), some (.int (nI (pd (e + 1 + n)))), some (.int (nI 1))]) (S' := []) rfl (by decide +kernel) rfl ?_
                rw [nI_1 n]
                refine Ev.goto (off := 5) (tgt := 129) (by decide +kernel) (by decide) ?_
                refine Ev.run [(.iinc 3 1, 3)] (pc' := 132) (L' := [some (.ref 359), some (.int (nI 1)), some (.int (nI (n + 1))), some (.int (nI (e + 1 + n) + 1)), some (.int (nI (pd (e + 1 + n)))), some (.int (nI 1))]) (S' := []) rfl (by decide +kernel) rfl ?_
                rw [nI_1 (e + 1 + n)]
                refine Ev.goto (off := (-122)) (tgt := 10) (by decide +kernel) (by decide) ?_
                refine Ev.weakL (L' := [some (.ref 359), some (.int (nI 1)), some (.int (nI (n + 1))), some (.int (nI ((e + 1 + n) + 1))), none, none]) ⟨rfl, rfl, rfl, rfl, trivial⟩ ?_
                rw [show e + 1 + n + 1 = e + 1 + (n + 1) by omega]
                exact ih (n + 1) I1 (by omega) (by omega) (by omega) hs hh (by rw [hE, et_st (by omega) (by omega) (stn_y (Or.inr h68))]; rfl)
              · have h90 : (e + 1) < 0 := zz_bG_f (by omega) (by omega) h90
                exfalso; omega
            · show Ev _ _ _ _ _ 71 [some (.ref 359), some (.int (nI 1)), some (.int (nI n)), some (.int (nI (e + 1 + n))), some (.int (nI (pd (e + 1 + n)))), none] [.int (nI 0)] (zz_SH, I1, J) _
              rw [zz_rng (by omega) (by omega) (by omega)] at h68
              refine Ev.if_eq (off := 7) (tgt := 78) (by decide +kernel) (by decide) (fun h71 => ?_) (fun h71 => absurd h71 (by decide))
              refine Ev.run [(.iconst 0, 1), (.istore 5, 2), (.iload_n 1, 1), (.iconst 1, 1)] (pc' := 83) (L' := [some (.ref 359), some (.int (nI 1)), some (.int (nI n)), some (.int (nI (e + 1 + n))), some (.int (nI (pd (e + 1 + n)))), some (.int (nI 0))]) (S' := [.int (nI 1), .int (nI 1)]) rfl (by decide +kernel) rfl ?_
              refine Ev.icmp_ne (off := 33) (tgt := 116) (by decide +kernel) (by decide) (fun h83 => absurd h83 (by decide)) (fun h83 => ?_)
              refine Ev.run [(.aload_n 0, 1), (.getfield 89, 3)] (pc' := 90) (L' := [some (.ref 359), some (.int (nI 1)), some (.int (nI n)), some (.int (nI (e + 1 + n))), some (.int (nI (pd (e + 1 + n)))), some (.int (nI 0))]) (S' := [.int (I1 359 15)]) rfl (by decide +kernel) rfl ?_
              rw [hh]
              refine Ev.if_ge (off := 26) (tgt := 116) (by decide +kernel) (by decide) (fun h90 => ?_) (fun h90 => ?_)
              · have h90 : (e + 1) ≥ 0 := zz_bG_t (by omega) (by omega) h90
                refine Ev.run [(.iload 5, 2)] (pc' := 118) (L' := [some (.ref 359), some (.int (nI 1)), some (.int (nI n)), some (.int (nI (e + 1 + n))), some (.int (nI (pd (e + 1 + n)))), some (.int (nI 0))]) (S' := [.int (nI 0)]) rfl (by decide +kernel) rfl ?_
                refine Ev.if_eq (off := 9) (tgt := 127) (by decide +kernel) (by decide) (fun h118 => ?_) (fun h118 => absurd h118 (by decide))
                refine Ev.run [(.iload_n 3, 1)] (pc' := 128) (L' := [some (.ref 359), some (.int (nI 1)), some (.int (nI n)), some (.int (nI (e + 1 + n))), some (.int (nI (pd (e + 1 + n)))), some (.int (nI 0))]) (S' := [.int (nI (e + 1 + n))]) rfl (by decide +kernel) rfl ?_
                exact Ev.iret rfl (by decide +kernel) (⟨by have e2 : E2 np pd = e + 1 + n := hE.trans (et_no (stn_n h34 h68)); rw [fP, if_neg (by rw [he]; omega), if_pos (by omega), e2]; rfl, I1, hs, (fun q => by have e2 : E2 np pd = e + 1 + n := hE.trans (et_no (stn_n h34 h68)); rw [fP, if_neg (by rw [he]; omega), if_pos (by omega)] at q; cases q), rfl⟩)
              · have h90 : (e + 1) < 0 := zz_bG_f (by omega) (by omega) h90
                exfalso; omega
          · have h44 : (e + 1) < 0 := zz_bG_f (by omega) (by omega) h44
            exfalso; omega

set_option maxRecDepth 100000 in
set_option maxHeartbeats 4000000 in
theorem l_X7_fA1 {sc : Nat × (Nat → Int32)} {d : Nat} (I : Nat → Nat → Int32) (J : Nat → Nat → Int64) (np : Nat) (pd : Nat → Nat) (hn : I 359 0 = nI np) (hpd : ∀ j, j < np → I 360 j = nI (pd j)) (hnp : np ≤ 30) (hpr : ∀ j, j < np → 33 ≤ pd j ∧ pd j ≤ 126) : ∀ (μ : Nat) (k : Nat) (I1 : Nat → Nat → Int32), np - k < μ → (k ≤ np) → (k ≤ 12) → (zS7 I I1) → (I1 359 15 = (-6)) → (E1 np pd = et np pd 97 (12 - k) k) →  Ev sc (d + 2) 0 0 mX7_faultOf 10 [some (.ref 359), some (.int (nI 1)), some (.int (nI k)), some (.int (nI k)), none, none] [] (zz_SH, I1, J) (fun r σ => r = some (.int (ob (fP np pd))) ∧ ∃ I' : Nat → Nat → Int32, zS7 I I' ∧ (fP np pd = none → I' 359 15 = nI (E1 np pd + 1)) ∧ σ = (zz_SH, I', J)) := by
  intro μ
  induction μ with
  | zero => intro k I1 hμ; exact absurd hμ (Nat.not_lt_zero _)
  | succ μ ih =>
    intro k I1 hμ hk hk2 hs hh hE
    refine Ev.run [(.iload_n 3, 1), (.aload_n 0, 1), (.getfield 86, 3)] (pc' := 15) (L' := [some (.ref 359), some (.int (nI 1)), some (.int (nI k)), some (.int (nI k)), none, none]) (S' := [.int (I1 359 0), .int (nI k)]) rfl (by decide +kernel) rfl ?_
    rw [show I1 359 0 = nI np from by rw [hs.2 0 (by decide)]; exact hn]
    refine Ev.icmp_ge (off := 120) (tgt := 135) (by decide +kernel) (by decide) (fun h15 => ?_) (fun h15 => ?_)
    · have h15 : k ≥ np := zz_bG_t (by omega) (by omega) h15
      refine Ev.run [(.iload_n 2, 1)] (pc' := 136) (L' := [some (.ref 359), some (.int (nI 1)), some (.int (nI k)), some (.int (nI k)), none, none]) (S' := [.int (nI k)]) rfl (by decide +kernel) rfl ?_
      refine Ev.if_le (off := 19) (tgt := 155) (by decide +kernel) (by decide) (fun h136 => ?_) (fun h136 => ?_)
      · have h136 : k ≤ 0 := zz_bG'_t (by omega) (by omega) h136
        refine Ev.run [(.aload_n 0, 1), (.getfield 86, 3)] (pc' := 159) (L' := [some (.ref 359), some (.int (nI 1)), some (.int (nI k)), some (.int (nI k)), none, none]) (S' := [.int (I1 359 0)]) rfl (by decide +kernel) rfl ?_
        rw [show I1 359 0 = nI np from by rw [hs.2 0 (by decide)]; exact hn]
        exact Ev.iret rfl (by decide +kernel) (⟨by have e1 : E1 np pd = k := hE.trans (et_np (by omega)); rw [fP, if_pos (by omega), e1, show k = np by omega]; rfl, I1, hs, (fun q => by have e1 : E1 np pd = k := hE.trans (et_np (by omega)); rw [fP, if_pos (by omega)] at q; cases q), rfl⟩)
      · have h136 : k > 0 := zz_bG'_f (by omega) (by omega) h136
        refine Ev.run [(.iload_n 1, 1)] (pc' := 140) (L' := [some (.ref 359), some (.int (nI 1)), some (.int (nI k)), some (.int (nI k)), none, none]) (S' := [.int (nI 1)]) rfl (by decide +kernel) rfl ?_
        refine Ev.if_eq (off := 10) (tgt := 150) (by decide +kernel) (by decide) (fun h140 => absurd h140 (by decide)) (fun h140 => ?_)
        refine Ev.run [(.aload_n 0, 1), (.getfield 89, 3)] (pc' := 147) (L' := [some (.ref 359), some (.int (nI 1)), some (.int (nI k)), some (.int (nI k)), none, none]) (S' := [.int (I1 359 15)]) rfl (by decide +kernel) rfl ?_
        rw [hh]
        refine Ev.if_lt (off := 8) (tgt := 155) (by decide +kernel) (by decide) (fun h147 => ?_) (fun h147 => absurd h147 (by decide))
        refine Ev.run [(.aload_n 0, 1), (.getfield 86, 3)] (pc' := 159) (L' := [some (.ref 359), some (.int (nI 1)), some (.int (nI k)), some (.int (nI k)), none, none]) (S' := [.int (I1 359 0)]) rfl (by decide +kernel) rfl ?_
        rw [show I1 359 0 = nI np from by rw [hs.2 0 (by decide)]; exact hn]
        exact Ev.iret rfl (by decide +kernel) (⟨by have e1 : E1 np pd = k := hE.trans (et_np (by omega)); rw [fP, if_pos (by omega), e1, show k = np by omega]; rfl, I1, hs, (fun q => by have e1 : E1 np pd = k := hE.trans (et_np (by omega)); rw [fP, if_pos (by omega)] at q; cases q), rfl⟩)
    · have h15 : k < np := zz_bG_f (by omega) (by omega) h15
      have r1 := hpr (k) (by omega)
      refine Ev.run [(.aload_n 0, 1), (.getfield 7, 3), (.iload_n 3, 1)] (pc' := 23) (L' := [some (.ref 359), some (.int (nI 1)), some (.int (nI k)), some (.int (nI k)), none, none]) (S' := [.int (nI k), .ref 360]) rfl (by decide +kernel) rfl ?_
      refine Ev.iald k (by decide +kernel) (rfl) (rfl) (by omega) (by first | decide | omega) ?_
      dsimp only
      rw [show I1 360 (k) = nI (pd (k)) from by rw [hs.1 360 (by decide)]; exact hpd _ (by omega)]
      refine Ev.run [(.istore 4, 2), (.iload_n 2, 1), (.bipush 12, 2)] (pc' := 29) (L' := [some (.ref 359), some (.int (nI 1)), some (.int (nI k)), some (.int (nI k)), some (.int (nI (pd k))), none]) (S' := [.int (nI 12), .int (nI k)]) rfl (by decide +kernel) rfl ?_
      refine Ev.icmp_ge (off := 49) (tgt := 78) (by decide +kernel) (by decide) (fun h29 => ?_) (fun h29 => ?_)
      · have h29 : k ≥ 12 := zz_bG_t (by omega) (by omega) h29
        refine Ev.run [(.iconst 0, 1), (.istore 5, 2), (.iload_n 1, 1), (.iconst 1, 1)] (pc' := 83) (L' := [some (.ref 359), some (.int (nI 1)), some (.int (nI k)), some (.int (nI k)), some (.int (nI (pd k))), some (.int (nI 0))]) (S' := [.int (nI 1), .int (nI 1)]) rfl (by decide +kernel) rfl ?_
        refine Ev.icmp_ne (off := 33) (tgt := 116) (by decide +kernel) (by decide) (fun h83 => absurd h83 (by decide)) (fun h83 => ?_)
        refine Ev.run [(.aload_n 0, 1), (.getfield 89, 3)] (pc' := 90) (L' := [some (.ref 359), some (.int (nI 1)), some (.int (nI k)), some (.int (nI k)), some (.int (nI (pd k))), some (.int (nI 0))]) (S' := [.int (I1 359 15)]) rfl (by decide +kernel) rfl ?_
        rw [hh]
        refine Ev.if_ge (off := 26) (tgt := 116) (by decide +kernel) (by decide) (fun h90 => absurd h90 (by decide)) (fun h90 => ?_)
        refine Ev.run [(.iload 4, 2), (.bipush 61, 2)] (pc' := 97) (L' := [some (.ref 359), some (.int (nI 1)), some (.int (nI k)), some (.int (nI k)), some (.int (nI (pd k))), some (.int (nI 0))]) (S' := [.int (nI 61), .int (nI (pd k))]) rfl (by decide +kernel) rfl ?_
        refine Ev.icmp_ne (off := 19) (tgt := 116) (by decide +kernel) (by decide) (fun h97 => ?_) (fun h97 => ?_)
        · have h97 : ¬ (pd k) = 61 := zz_bE_f (by omega) (by omega) h97
          refine Ev.run [(.iload 5, 2)] (pc' := 118) (L' := [some (.ref 359), some (.int (nI 1)), some (.int (nI k)), some (.int (nI k)), some (.int (nI (pd k))), some (.int (nI 0))]) (S' := [.int (nI 0)]) rfl (by decide +kernel) rfl ?_
          refine Ev.if_eq (off := 9) (tgt := 127) (by decide +kernel) (by decide) (fun h118 => ?_) (fun h118 => absurd h118 (by decide))
          refine Ev.run [(.iload_n 3, 1)] (pc' := 128) (L' := [some (.ref 359), some (.int (nI 1)), some (.int (nI k)), some (.int (nI k)), some (.int (nI (pd k))), some (.int (nI 0))]) (S' := [.int (nI k)]) rfl (by decide +kernel) rfl ?_
          exact Ev.iret rfl (by decide +kernel) (⟨by have e1 : E1 np pd = k := hE.trans (by rw [show 12 - k = 0 by omega]; rfl); rw [fP, if_pos (Or.inr (fun q => h97 (by rw [← e1]; exact q.2))), e1]; rfl, I1, hs, (fun q => by have e1 : E1 np pd = k := hE.trans (by rw [show 12 - k = 0 by omega]; rfl); rw [fP, if_pos (Or.inr (fun q => h97 (by rw [← e1]; exact q.2)))] at q; cases q), rfl⟩)
        · have h97 : (pd k) = 61 := zz_bE_t (by omega) (by omega) h97
          refine Ev.run [(.iload_n 2, 1)] (pc' := 101) (L' := [some (.ref 359), some (.int (nI 1)), some (.int (nI k)), some (.int (nI k)), some (.int (nI (pd k))), some (.int (nI 0))]) (S' := [.int (nI k)]) rfl (by decide +kernel) rfl ?_
          refine Ev.if_le (off := 15) (tgt := 116) (by decide +kernel) (by decide) (fun h101 => ?_) (fun h101 => ?_)
          · have h101 : k ≤ 0 := zz_bG'_t (by omega) (by omega) h101
            refine Ev.run [(.iload 5, 2)] (pc' := 118) (L' := [some (.ref 359), some (.int (nI 1)), some (.int (nI k)), some (.int (nI k)), some (.int (nI (pd k))), some (.int (nI 0))]) (S' := [.int (nI 0)]) rfl (by decide +kernel) rfl ?_
            refine Ev.if_eq (off := 9) (tgt := 127) (by decide +kernel) (by decide) (fun h118 => ?_) (fun h118 => absurd h118 (by decide))
            refine Ev.run [(.iload_n 3, 1)] (pc' := 128) (L' := [some (.ref 359), some (.int (nI 1)), some (.int (nI k)), some (.int (nI k)), some (.int (nI (pd k))), some (.int (nI 0))]) (S' := [.int (nI k)]) rfl (by decide +kernel) rfl ?_
            exact Ev.iret rfl (by decide +kernel) (⟨by have e1 : E1 np pd = k := hE.trans (by rw [show 12 - k = 0 by omega]; rfl); rw [fP, if_pos (Or.inl (by omega)), e1]; rfl, I1, hs, (fun q => by have e1 : E1 np pd = k := hE.trans (by rw [show 12 - k = 0 by omega]; rfl); rw [fP, if_pos (Or.inl (by omega))] at q; cases q), rfl⟩)
          · have h101 : k > 0 := zz_bG'_f (by omega) (by omega) h101
            refine Ev.run [(.aload_n 0, 1), (.iload_n 3, 1), (.iconst 1, 1), (.iadd, 1)] (pc' := 108) (L' := [some (.ref 359), some (.int (nI 1)), some (.int (nI k)), some (.int (nI k)), some (.int (nI (pd k))), some (.int (nI 0))]) (S' := [.int (nI k + nI 1), .ref 359]) rfl (by decide +kernel) rfl ?_
            rw [nI_add k 1]
            refine Ev.putf (idx := 89) rfl rfl rfl (by decide +kernel) (rfl) rfl ?_
            dsimp only
            refine Ev.run [(.iconst 0, 1), (.istore_n 2, 1)] (pc' := 113) (L' := [some (.ref 359), some (.int (nI 1)), some (.int (nI 0)), some (.int (nI k)), some (.int (nI (pd k))), some (.int (nI 0))]) (S' := []) rfl (by decide +kernel) rfl ?_
            refine Ev.goto (off := 16) (tgt := 129) (by decide +kernel) (by decide) ?_
            refine Ev.run [(.iinc 3 1, 3)] (pc' := 132) (L' := [some (.ref 359), some (.int (nI 1)), some (.int (nI 0)), some (.int (nI k + 1)), some (.int (nI (pd k))), some (.int (nI 0))]) (S' := []) rfl (by decide +kernel) rfl ?_
            rw [nI_1 k]
            refine Ev.goto (off := (-122)) (tgt := 10) (by decide +kernel) (by decide) ?_
            refine Ev.weakL (L' := [some (.ref 359), some (.int (nI 1)), some (.int (nI 0)), some (.int (nI (k + 1))), none, none]) ⟨rfl, rfl, rfl, rfl, trivial⟩ ?_
            have e1 : E1 np pd = k := hE.trans (et_no (by rw [h97]; decide))
            exact l_X7_fB I J np pd hn hpd hnp hpr k e1 (by omega) (by omega) h97 (np + 1) 0 _ (by omega) (by omega) (by omega) (hs.tr (zS7.up I1 _)) (by rw [zz_up_eq, zz_ups]) (by rw [E2, e1])
      · have h29 : k < 12 := zz_bG_f (by omega) (by omega) h29
        refine Ev.run [(.iload 4, 2)] (pc' := 34) (L' := [some (.ref 359), some (.int (nI 1)), some (.int (nI k)), some (.int (nI k)), some (.int (nI (pd k))), none]) (S' := [.int (nI (pd k))]) rfl (by decide +kernel) rfl ?_
        refine Ev.callS0 mX7_isNumber [.int (nI (pd k))] [] _ rfl lk_RX7_92 (by decide +kernel) rfl (Nat.le_of_ble_eq_true rfl) (c_X7_isNumber I1 J (nI (pd k))) ?_
        rintro _ _ ⟨rfl, ⟨rfl, h34⟩ | ⟨rfl, h34⟩⟩
        · show Ev _ _ _ _ _ 37 [some (.ref 359), some (.int (nI 1)), some (.int (nI k)), some (.int (nI k)), some (.int (nI (pd k))), none] [.int (nI 1)] (zz_SH, I1, J) _
          rw [zz_num (by omega)] at h34
          refine Ev.if_ne (off := 37) (tgt := 74) (by decide +kernel) (by decide) (fun h37 => ?_) (fun h37 => absurd h37 (by decide))
          refine Ev.run [(.iconst 1, 1)] (pc' := 75) (L' := [some (.ref 359), some (.int (nI 1)), some (.int (nI k)), some (.int (nI k)), some (.int (nI (pd k))), none]) (S' := [.int (nI 1)]) rfl (by decide +kernel) rfl ?_
          refine Ev.goto (off := 4) (tgt := 79) (by decide +kernel) (by decide) ?_
          refine Ev.run [(.istore 5, 2), (.iload_n 1, 1), (.iconst 1, 1)] (pc' := 83) (L' := [some (.ref 359), some (.int (nI 1)), some (.int (nI k)), some (.int (nI k)), some (.int (nI (pd k))), some (.int (nI 1))]) (S' := [.int (nI 1), .int (nI 1)]) rfl (by decide +kernel) rfl ?_
          refine Ev.icmp_ne (off := 33) (tgt := 116) (by decide +kernel) (by decide) (fun h83 => absurd h83 (by decide)) (fun h83 => ?_)
          refine Ev.run [(.aload_n 0, 1), (.getfield 89, 3)] (pc' := 90) (L' := [some (.ref 359), some (.int (nI 1)), some (.int (nI k)), some (.int (nI k)), some (.int (nI (pd k))), some (.int (nI 1))]) (S' := [.int (I1 359 15)]) rfl (by decide +kernel) rfl ?_
          rw [hh]
          refine Ev.if_ge (off := 26) (tgt := 116) (by decide +kernel) (by decide) (fun h90 => absurd h90 (by decide)) (fun h90 => ?_)
          refine Ev.run [(.iload 4, 2), (.bipush 61, 2)] (pc' := 97) (L' := [some (.ref 359), some (.int (nI 1)), some (.int (nI k)), some (.int (nI k)), some (.int (nI (pd k))), some (.int (nI 1))]) (S' := [.int (nI 61), .int (nI (pd k))]) rfl (by decide +kernel) rfl ?_
          refine Ev.icmp_ne (off := 19) (tgt := 116) (by decide +kernel) (by decide) (fun h97 => ?_) (fun h97 => ?_)
          · have h97 : ¬ (pd k) = 61 := zz_bE_f (by omega) (by omega) h97
            refine Ev.run [(.iload 5, 2)] (pc' := 118) (L' := [some (.ref 359), some (.int (nI 1)), some (.int (nI k)), some (.int (nI k)), some (.int (nI (pd k))), some (.int (nI 1))]) (S' := [.int (nI 1)]) rfl (by decide +kernel) rfl ?_
            refine Ev.if_eq (off := 9) (tgt := 127) (by decide +kernel) (by decide) (fun h118 => absurd h118 (by decide)) (fun h118 => ?_)
            refine Ev.run [(.iinc 2 1, 3)] (pc' := 124) (L' := [some (.ref 359), some (.int (nI 1)), some (.int (nI k + 1)), some (.int (nI k)), some (.int (nI (pd k))), some (.int (nI 1))]) (S' := []) rfl (by decide +kernel) rfl ?_
            rw [nI_1 k]
            refine Ev.goto (off := 5) (tgt := 129) (by decide +kernel) (by decide) ?_
            refine Ev.run [(.iinc 3 1, 3)] (pc' := 132) (L' := [some (.ref 359), some (.int (nI 1)), some (.int (nI (k + 1))), some (.int (nI k + 1)), some (.int (nI (pd k))), some (.int (nI 1))]) (S' := []) rfl (by decide +kernel) rfl ?_
            rw [nI_1 k]
            refine Ev.goto (off := (-122)) (tgt := 10) (by decide +kernel) (by decide) ?_
            refine Ev.weakL (L' := [some (.ref 359), some (.int (nI 1)), some (.int (nI (k + 1))), some (.int (nI (k + 1))), none, none]) ⟨rfl, rfl, rfl, rfl, trivial⟩ ?_
            exact ih (k + 1) I1 (by omega) (by omega) (by omega) hs hh (by rw [hE, et_st (by omega) (by omega) (stn_y (Or.inl h34))]; rfl)
          · have h97 : (pd k) = 61 := zz_bE_t (by omega) (by omega) h97
            refine Ev.run [(.iload_n 2, 1)] (pc' := 101) (L' := [some (.ref 359), some (.int (nI 1)), some (.int (nI k)), some (.int (nI k)), some (.int (nI (pd k))), some (.int (nI 1))]) (S' := [.int (nI k)]) rfl (by decide +kernel) rfl ?_
            refine Ev.if_le (off := 15) (tgt := 116) (by decide +kernel) (by decide) (fun h101 => ?_) (fun h101 => ?_)
            · have h101 : k ≤ 0 := zz_bG'_t (by omega) (by omega) h101
              refine Ev.run [(.iload 5, 2)] (pc' := 118) (L' := [some (.ref 359), some (.int (nI 1)), some (.int (nI k)), some (.int (nI k)), some (.int (nI (pd k))), some (.int (nI 1))]) (S' := [.int (nI 1)]) rfl (by decide +kernel) rfl ?_
              refine Ev.if_eq (off := 9) (tgt := 127) (by decide +kernel) (by decide) (fun h118 => absurd h118 (by decide)) (fun h118 => ?_)
              refine Ev.run [(.iinc 2 1, 3)] (pc' := 124) (L' := [some (.ref 359), some (.int (nI 1)), some (.int (nI k + 1)), some (.int (nI k)), some (.int (nI (pd k))), some (.int (nI 1))]) (S' := []) rfl (by decide +kernel) rfl ?_
              rw [nI_1 k]
              refine Ev.goto (off := 5) (tgt := 129) (by decide +kernel) (by decide) ?_
              refine Ev.run [(.iinc 3 1, 3)] (pc' := 132) (L' := [some (.ref 359), some (.int (nI 1)), some (.int (nI (k + 1))), some (.int (nI k + 1)), some (.int (nI (pd k))), some (.int (nI 1))]) (S' := []) rfl (by decide +kernel) rfl ?_
              rw [nI_1 k]
              refine Ev.goto (off := (-122)) (tgt := 10) (by decide +kernel) (by decide) ?_
              refine Ev.weakL (L' := [some (.ref 359), some (.int (nI 1)), some (.int (nI (k + 1))), some (.int (nI (k + 1))), none, none]) ⟨rfl, rfl, rfl, rfl, trivial⟩ ?_
              exact ih (k + 1) I1 (by omega) (by omega) (by omega) hs hh (by rw [hE, et_st (by omega) (by omega) (stn_y (Or.inl h34))]; rfl)
            · have h101 : k > 0 := zz_bG'_f (by omega) (by omega) h101
              refine Ev.run [(.aload_n 0, 1), (.iload_n 3, 1), (.iconst 1, 1), (.iadd, 1)] (pc' := 108) (L' := [some (.ref 359), some (.int (nI 1)), some (.int (nI k)), some (.int (nI k)), some (.int (nI (pd k))), some (.int (nI 1))]) (S' := [.int (nI k + nI 1), .ref 359]) rfl (by decide +kernel) rfl ?_
              rw [nI_add k 1]
              refine Ev.putf (idx := 89) rfl rfl rfl (by decide +kernel) (rfl) rfl ?_
              dsimp only
              refine Ev.run [(.iconst 0, 1), (.istore_n 2, 1)] (pc' := 113) (L' := [some (.ref 359), some (.int (nI 1)), some (.int (nI 0)), some (.int (nI k)), some (.int (nI (pd k))), some (.int (nI 1))]) (S' := []) rfl (by decide +kernel) rfl ?_
              refine Ev.goto (off := 16) (tgt := 129) (by decide +kernel) (by decide) ?_
              refine Ev.run [(.iinc 3 1, 3)] (pc' := 132) (L' := [some (.ref 359), some (.int (nI 1)), some (.int (nI 0)), some (.int (nI k + 1)), some (.int (nI (pd k))), some (.int (nI 1))]) (S' := []) rfl (by decide +kernel) rfl ?_
              rw [nI_1 k]
              refine Ev.goto (off := (-122)) (tgt := 10) (by decide +kernel) (by decide) ?_
              refine Ev.weakL (L' := [some (.ref 359), some (.int (nI 1)), some (.int (nI 0)), some (.int (nI (k + 1))), none, none]) ⟨rfl, rfl, rfl, rfl, trivial⟩ ?_
              have e1 : E1 np pd = k := hE.trans (et_no (by rw [h97]; decide))
              exact l_X7_fB I J np pd hn hpd hnp hpr k e1 (by omega) (by omega) h97 (np + 1) 0 _ (by omega) (by omega) (by omega) (hs.tr (zS7.up I1 _)) (by rw [zz_up_eq, zz_ups]) (by rw [E2, e1])
        · show Ev _ _ _ _ _ 37 [some (.ref 359), some (.int (nI 1)), some (.int (nI k)), some (.int (nI k)), some (.int (nI (pd k))), none] [.int (nI 0)] (zz_SH, I1, J) _
          rw [zz_num (by omega)] at h34
          refine Ev.if_ne (off := 37) (tgt := 74) (by decide +kernel) (by decide) (fun h37 => absurd h37 (by decide)) (fun h37 => ?_)
          refine Ev.run [(.aload_n 0, 1), (.getfield 89, 3)] (pc' := 44) (L' := [some (.ref 359), some (.int (nI 1)), some (.int (nI k)), some (.int (nI k)), some (.int (nI (pd k))), none]) (S' := [.int (I1 359 15)]) rfl (by decide +kernel) rfl ?_
          rw [hh]
          refine Ev.if_ge (off := 18) (tgt := 62) (by decide +kernel) (by decide) (fun h44 => absurd h44 (by decide)) (fun h44 => ?_)
          refine Ev.run [(.iload 4, 2), (.bipush 97, 2), (.bipush 112, 2)] (pc' := 53) (L' := [some (.ref 359), some (.int (nI 1)), some (.int (nI k)), some (.int (nI k)), some (.int (nI (pd k))), none]) (S' := [.int (nI 112), .int (nI 97), .int (nI (pd k))]) rfl (by decide +kernel) rfl ?_
          refine Ev.callS0 mX7_in [.int (nI (pd k)), .int (nI 97), .int (nI 112)] [] _ rfl lk_RX7_79 (by decide +kernel) rfl (Nat.le_of_ble_eq_true rfl) (c_X7_in I1 J (nI (pd k)) (nI 97) (nI 112)) ?_
          rintro _ _ ⟨rfl, ⟨rfl, h53⟩ | ⟨rfl, h53⟩⟩
          · show Ev _ _ _ _ _ 56 [some (.ref 359), some (.int (nI 1)), some (.int (nI k)), some (.int (nI k)), some (.int (nI (pd k))), none] [.int (nI 1)] (zz_SH, I1, J) _
            rw [zz_rng (by omega) (by omega) (by omega)] at h53
            refine Ev.if_eq (off := 22) (tgt := 78) (by decide +kernel) (by decide) (fun h56 => absurd h56 (by decide)) (fun h56 => ?_)
            refine Ev.goto (off := 15) (tgt := 74) (by decide +kernel) (by decide) ?_
            refine Ev.run [(.iconst 1, 1)] (pc' := 75) (L' := [some (.ref 359), some (.int (nI 1)), some (.int (nI k)), some (.int (nI k)), some (.int (nI (pd k))), none]) (S' := [.int (nI 1)]) rfl (by decide +kernel) rfl ?_
            refine Ev.goto (off := 4) (tgt := 79) (by decide +kernel) (by decide) ?_
            refine Ev.run [(.istore 5, 2), (.iload_n 1, 1), (.iconst 1, 1)] (pc' := 83) (L' := [some (.ref 359), some (.int (nI 1)), some (.int (nI k)), some (.int (nI k)), some (.int (nI (pd k))), some (.int (nI 1))]) (S' := [.int (nI 1), .int (nI 1)]) rfl (by decide +kernel) rfl ?_
            refine Ev.icmp_ne (off := 33) (tgt := 116) (by decide +kernel) (by decide) (fun h83 => absurd h83 (by decide)) (fun h83 => ?_)
            refine Ev.run [(.aload_n 0, 1), (.getfield 89, 3)] (pc' := 90) (L' := [some (.ref 359), some (.int (nI 1)), some (.int (nI k)), some (.int (nI k)), some (.int (nI (pd k))), some (.int (nI 1))]) (S' := [.int (I1 359 15)]) rfl (by decide +kernel) rfl ?_
            rw [hh]
            refine Ev.if_ge (off := 26) (tgt := 116) (by decide +kernel) (by decide) (fun h90 => absurd h90 (by decide)) (fun h90 => ?_)
            refine Ev.run [(.iload 4, 2), (.bipush 61, 2)] (pc' := 97) (L' := [some (.ref 359), some (.int (nI 1)), some (.int (nI k)), some (.int (nI k)), some (.int (nI (pd k))), some (.int (nI 1))]) (S' := [.int (nI 61), .int (nI (pd k))]) rfl (by decide +kernel) rfl ?_
            refine Ev.icmp_ne (off := 19) (tgt := 116) (by decide +kernel) (by decide) (fun h97 => ?_) (fun h97 => ?_)
            · have h97 : ¬ (pd k) = 61 := zz_bE_f (by omega) (by omega) h97
              refine Ev.run [(.iload 5, 2)] (pc' := 118) (L' := [some (.ref 359), some (.int (nI 1)), some (.int (nI k)), some (.int (nI k)), some (.int (nI (pd k))), some (.int (nI 1))]) (S' := [.int (nI 1)]) rfl (by decide +kernel) rfl ?_
              refine Ev.if_eq (off := 9) (tgt := 127) (by decide +kernel) (by decide) (fun h118 => absurd h118 (by decide)) (fun h118 => ?_)
              refine Ev.run [(.iinc 2 1, 3)] (pc' := 124) (L' := [some (.ref 359), some (.int (nI 1)), some (.int (nI k + 1)), some (.int (nI k)), some (.int (nI (pd k))), some (.int (nI 1))]) (S' := []) rfl (by decide +kernel) rfl ?_
              rw [nI_1 k]
              refine Ev.goto (off := 5) (tgt := 129) (by decide +kernel) (by decide) ?_
              refine Ev.run [(.iinc 3 1, 3)] (pc' := 132) (L' := [some (.ref 359), some (.int (nI 1)), some (.int (nI (k + 1))), some (.int (nI k + 1)), some (.int (nI (pd k))), some (.int (nI 1))]) (S' := []) rfl (by decide +kernel) rfl ?_
              rw [nI_1 k]
              refine Ev.goto (off := (-122)) (tgt := 10) (by decide +kernel) (by decide) ?_
              refine Ev.weakL (L' := [some (.ref 359), some (.int (nI 1)), some (.int (nI (k + 1))), some (.int (nI (k + 1))), none, none]) ⟨rfl, rfl, rfl, rfl, trivial⟩ ?_
              exact ih (k + 1) I1 (by omega) (by omega) (by omega) hs hh (by rw [hE, et_st (by omega) (by omega) (stn_y (Or.inr h53))]; rfl)
            · have h97 : (pd k) = 61 := zz_bE_t (by omega) (by omega) h97
              refine Ev.run [(.iload_n 2, 1)] (pc' := 101) (L' := [some (.ref 359), some (.int (nI 1)), some (.int (nI k)), some (.int (nI k)), some (.int (nI (pd k))), some (.int (nI 1))]) (S' := [.int (nI k)]) rfl (by decide +kernel) rfl ?_
              refine Ev.if_le (off := 15) (tgt := 116) (by decide +kernel) (by decide) (fun h101 => ?_) (fun h101 => ?_)
              · have h101 : k ≤ 0 := zz_bG'_t (by omega) (by omega) h101
                refine Ev.run [(.iload 5, 2)] (pc' := 118) (L' := [some (.ref 359), some (.int (nI 1)), some (.int (nI k)), some (.int (nI k)), some (.int (nI (pd k))), some (.int (nI 1))]) (S' := [.int (nI 1)]) rfl (by decide +kernel) rfl ?_
                refine Ev.if_eq (off := 9) (tgt := 127) (by decide +kernel) (by decide) (fun h118 => absurd h118 (by decide)) (fun h118 => ?_)
                refine Ev.run [(.iinc 2 1, 3)] (pc' := 124) (L' := [some (.ref 359), some (.int (nI 1)), some (.int (nI k + 1)), some (.int (nI k)), some (.int (nI (pd k))), some (.int (nI 1))]) (S' := []) rfl (by decide +kernel) rfl ?_
                rw [nI_1 k]
                refine Ev.goto (off := 5) (tgt := 129) (by decide +kernel) (by decide) ?_
                refine Ev.run [(.iinc 3 1, 3)] (pc' := 132) (L' := [some (.ref 359), some (.int (nI 1)), some (.int (nI (k + 1))), some (.int (nI k + 1)), some (.int (nI (pd k))), some (.int (nI 1))]) (S' := []) rfl (by decide +kernel) rfl ?_
                rw [nI_1 k]
                refine Ev.goto (off := (-122)) (tgt := 10) (by decide +kernel) (by decide) ?_
                refine Ev.weakL (L' := [some (.ref 359), some (.int (nI 1)), some (.int (nI (k + 1))), some (.int (nI (k + 1))), none, none]) ⟨rfl, rfl, rfl, rfl, trivial⟩ ?_
                exact ih (k + 1) I1 (by omega) (by omega) (by omega) hs hh (by rw [hE, et_st (by omega) (by omega) (stn_y (Or.inr h53))]; rfl)
              · have h101 : k > 0 := zz_bG'_f (by omega) (by omega) h101
                refine Ev.run [(.aload_n 0, 1), (.iload_n 3, 1), (.iconst 1, 1), (.iadd, 1)] (pc' := 108) (L' := [some (.ref 359), some (.int (nI 1)), some (.int (nI k)), some (.int (nI k)), some (.int (nI (pd k))), some (.int (nI 1))]) (S' := [.int (nI k + nI 1), .ref 359]) rfl (by decide +kernel) rfl ?_
                rw [nI_add k 1]
                refine Ev.putf (idx := 89) rfl rfl rfl (by decide +kernel) (rfl) rfl ?_
                dsimp only
                refine Ev.run [(.iconst 0, 1), (.istore_n 2, 1)] (pc' := 113) (L' := [some (.ref 359), some (.int (nI 1)), some (.int (nI 0)), some (.int (nI k)), some (.int (nI (pd k))), some (.int (nI 1))]) (S' := []) rfl (by decide +kernel) rfl ?_
                refine Ev.goto (off := 16) (tgt := 129) (by decide +kernel) (by decide) ?_
                refine Ev.run [(.iinc 3 1, 3)] (pc' := 132) (L' := [some (.ref 359), some (.int (nI 1)), some (.int (nI 0)), some (.int (nI k + 1)), some (.int (nI (pd k))), some (.int (nI 1))]) (S' := []) rfl (by decide +kernel) rfl ?_
                rw [nI_1 k]
                refine Ev.goto (off := (-122)) (tgt := 10) (by decide +kernel) (by decide) ?_
                refine Ev.weakL (L' := [some (.ref 359), some (.int (nI 1)), some (.int (nI 0)), some (.int (nI (k + 1))), none, none]) ⟨rfl, rfl, rfl, rfl, trivial⟩ ?_
                have e1 : E1 np pd = k := hE.trans (et_no (by rw [h97]; decide))
                exact l_X7_fB I J np pd hn hpd hnp hpr k e1 (by omega) (by omega) h97 (np + 1) 0 _ (by omega) (by omega) (by omega) (hs.tr (zS7.up I1 _)) (by rw [zz_up_eq, zz_ups]) (by rw [E2, e1])
          · show Ev _ _ _ _ _ 56 [some (.ref 359), some (.int (nI 1)), some (.int (nI k)), some (.int (nI k)), some (.int (nI (pd k))), none] [.int (nI 0)] (zz_SH, I1, J) _
            rw [zz_rng (by omega) (by omega) (by omega)] at h53
            refine Ev.if_eq (off := 22) (tgt := 78) (by decide +kernel) (by decide) (fun h56 => ?_) (fun h56 => absurd h56 (by decide))
            refine Ev.run [(.iconst 0, 1), (.istore 5, 2), (.iload_n 1, 1), (.iconst 1, 1)] (pc' := 83) (L' := [some (.ref 359), some (.int (nI 1)), some (.int (nI k)), some (.int (nI k)), some (.int (nI (pd k))), some (.int (nI 0))]) (S' := [.int (nI 1), .int (nI 1)]) rfl (by decide +kernel) rfl ?_
            refine Ev.icmp_ne (off := 33) (tgt := 116) (by decide +kernel) (by decide) (fun h83 => absurd h83 (by decide)) (fun h83 => ?_)
            refine Ev.run [(.aload_n 0, 1), (.getfield 89, 3)] (pc' := 90) (L' := [some (.ref 359), some (.int (nI 1)), some (.int (nI k)), some (.int (nI k)), some (.int (nI (pd k))), some (.int (nI 0))]) (S' := [.int (I1 359 15)]) rfl (by decide +kernel) rfl ?_
            rw [hh]
            refine Ev.if_ge (off := 26) (tgt := 116) (by decide +kernel) (by decide) (fun h90 => absurd h90 (by decide)) (fun h90 => ?_)
            refine Ev.run [(.iload 4, 2), (.bipush 61, 2)] (pc' := 97) (L' := [some (.ref 359), some (.int (nI 1)), some (.int (nI k)), some (.int (nI k)), some (.int (nI (pd k))), some (.int (nI 0))]) (S' := [.int (nI 61), .int (nI (pd k))]) rfl (by decide +kernel) rfl ?_
            refine Ev.icmp_ne (off := 19) (tgt := 116) (by decide +kernel) (by decide) (fun h97 => ?_) (fun h97 => ?_)
            · have h97 : ¬ (pd k) = 61 := zz_bE_f (by omega) (by omega) h97
              refine Ev.run [(.iload 5, 2)] (pc' := 118) (L' := [some (.ref 359), some (.int (nI 1)), some (.int (nI k)), some (.int (nI k)), some (.int (nI (pd k))), some (.int (nI 0))]) (S' := [.int (nI 0)]) rfl (by decide +kernel) rfl ?_
              refine Ev.if_eq (off := 9) (tgt := 127) (by decide +kernel) (by decide) (fun h118 => ?_) (fun h118 => absurd h118 (by decide))
              refine Ev.run [(.iload_n 3, 1)] (pc' := 128) (L' := [some (.ref 359), some (.int (nI 1)), some (.int (nI k)), some (.int (nI k)), some (.int (nI (pd k))), some (.int (nI 0))]) (S' := [.int (nI k)]) rfl (by decide +kernel) rfl ?_
              exact Ev.iret rfl (by decide +kernel) (⟨by have e1 : E1 np pd = k := hE.trans (et_no (stn_n h34 h53)); rw [fP, if_pos (Or.inr (fun q => h97 (by rw [← e1]; exact q.2))), e1]; rfl, I1, hs, (fun q => by have e1 : E1 np pd = k := hE.trans (et_no (stn_n h34 h53)); rw [fP, if_pos (Or.inr (fun q => h97 (by rw [← e1]; exact q.2)))] at q; cases q), rfl⟩)
            · have h97 : (pd k) = 61 := zz_bE_t (by omega) (by omega) h97
              refine Ev.run [(.iload_n 2, 1)] (pc' := 101) (L' := [some (.ref 359), some (.int (nI 1)), some (.int (nI k)), some (.int (nI k)), some (.int (nI (pd k))), some (.int (nI 0))]) (S' := [.int (nI k)]) rfl (by decide +kernel) rfl ?_
              refine Ev.if_le (off := 15) (tgt := 116) (by decide +kernel) (by decide) (fun h101 => ?_) (fun h101 => ?_)
              · have h101 : k ≤ 0 := zz_bG'_t (by omega) (by omega) h101
                refine Ev.run [(.iload 5, 2)] (pc' := 118) (L' := [some (.ref 359), some (.int (nI 1)), some (.int (nI k)), some (.int (nI k)), some (.int (nI (pd k))), some (.int (nI 0))]) (S' := [.int (nI 0)]) rfl (by decide +kernel) rfl ?_
                refine Ev.if_eq (off := 9) (tgt := 127) (by decide +kernel) (by decide) (fun h118 => ?_) (fun h118 => absurd h118 (by decide))
                refine Ev.run [(.iload_n 3, 1)] (pc' := 128) (L' := [some (.ref 359), some (.int (nI 1)), some (.int (nI k)), some (.int (nI k)), some (.int (nI (pd k))), some (.int (nI 0))]) (S' := [.int (nI k)]) rfl (by decide +kernel) rfl ?_
                exact Ev.iret rfl (by decide +kernel) (⟨by have e1 : E1 np pd = k := hE.trans (et_no (stn_n h34 h53)); rw [fP, if_pos (Or.inl (by omega)), e1]; rfl, I1, hs, (fun q => by have e1 : E1 np pd = k := hE.trans (et_no (stn_n h34 h53)); rw [fP, if_pos (Or.inl (by omega))] at q; cases q), rfl⟩)
              · have h101 : k > 0 := zz_bG'_f (by omega) (by omega) h101
                refine Ev.run [(.aload_n 0, 1), (.iload_n 3, 1), (.iconst 1, 1), (.iadd, 1)] (pc' := 108) (L' := [some (.ref 359), some (.int (nI 1)), some (.int (nI k)), some (.int (nI k)), some (.int (nI (pd k))), some (.int (nI 0))]) (S' := [.int (nI k + nI 1), .ref 359]) rfl (by decide +kernel) rfl ?_
                rw [nI_add k 1]
                refine Ev.putf (idx := 89) rfl rfl rfl (by decide +kernel) (rfl) rfl ?_
                dsimp only
                refine Ev.run [(.iconst 0, 1), (.istore_n 2, 1)] (pc' := 113) (L' := [some (.ref 359), some (.int (nI 1)), some (.int (nI 0)), some (.int (nI k)), some (.int (nI (pd k))), some (.int (nI 0))]) (S' := []) rfl (by decide +kernel) rfl ?_
                refine Ev.goto (off := 16) (tgt := 129) (by decide +kernel) (by decide) ?_
                refine Ev.run [(.iinc 3 1, 3)] (pc' := 132) (L' := [some (.ref 359), some (.int (nI 1)), some (.int (nI 0)), some (.int (nI k + 1)), some (.int (nI (pd k))), some (.int (nI 0))]) (S' := []) rfl (by decide +kernel) rfl ?_
                rw [nI_1 k]
                refine Ev.goto (off := (-122)) (tgt := 10) (by decide +kernel) (by decide) ?_
                refine Ev.weakL (L' := [some (.ref 359), some (.int (nI 1)), some (.int (nI 0)), some (.int (nI (k + 1))), none, none]) ⟨rfl, rfl, rfl, rfl, trivial⟩ ?_
                have e1 : E1 np pd = k := hE.trans (et_no (by rw [h97]; decide))
                exact l_X7_fB I J np pd hn hpd hnp hpr k e1 (by omega) (by omega) h97 (np + 1) 0 _ (by omega) (by omega) (by omega) (hs.tr (zS7.up I1 _)) (by rw [zz_up_eq, zz_ups]) (by rw [E2, e1])

set_option maxRecDepth 100000 in
set_option maxHeartbeats 4000000 in
theorem c_X7_faultOf_1 {sc : Nat × (Nat → Int32)} {d : Nat} (I : Nat → Nat → Int32) (J : Nat → Nat → Int64) (np : Nat) (pd : Nat → Nat) (hn : I 359 0 = nI np) (hpd : ∀ j, j < np → I 360 j = nI (pd j)) (hnp : np ≤ 30) (hpr : ∀ j, j < np → 33 ≤ pd j ∧ pd j ≤ 126) : EvM sc (d + 2) 0 0 mX7_faultOf [.ref 359, .int (nI 1)] (zz_SH, I, J) (fun r σ => r = some (.int (ob (fP np pd))) ∧ ∃ I' : Nat → Nat → Int32, zS7 I I' ∧ (fP np pd = none → I' 359 15 = nI (E1 np pd + 1)) ∧ σ = (zz_SH, I', J)) := by
  refine EvM.of (by decide) rfl (Nat.le_of_ble_eq_true rfl) ?_
  show Ev _ _ _ _ _ 0 [some (.ref 359), some (.int (nI 1)), none, none, none, none] [] (zz_SH, I, J) _
  refine Ev.run [(.aload_n 0, 1), (.bipush (-6), 2)] (pc' := 3) (L' := [some (.ref 359), some (.int (nI 1)), none, none, none, none]) (S' := [.int ((-6)), .ref 359]) rfl (by decide +kernel) rfl ?_
  refine Ev.putf (idx := 89) rfl rfl rfl (by decide +kernel) (rfl) rfl ?_
  dsimp only
  refine Ev.run [(.iconst 0, 1), (.istore_n 2, 1), (.iconst 0, 1), (.istore_n 3, 1)] (pc' := 10) (L' := [some (.ref 359), some (.int (nI 1)), some (.int (nI 0)), some (.int (nI 0)), none, none]) (S' := []) rfl (by decide +kernel) rfl ?_
  exact l_X7_fA1 I J np pd hn hpd hnp hpr (np + 1) 0 _ (by omega) (by omega) (by omega) (zS7.up I _) (by rw [zz_up_eq, zz_ups]) rfl

set_option maxRecDepth 100000 in
set_option maxHeartbeats 4000000 in
theorem c_X7_fault_0 {sc : Nat × (Nat → Int32)} {d : Nat} (I : Nat → Nat → Int32) (J : Nat → Nat → Int64) (np : Nat) (pd : Nat → Nat) (hn : I 359 0 = nI np) (hpd : ∀ j, j < np → I 360 j = nI (pd j)) (hnp : np ≤ 30) (hpr : ∀ j, j < np → 33 ≤ pd j ∧ pd j ≤ 126) : EvM sc (d + 3) 0 0 mX7_fault [.ref 359, .int (nI 0)] (zz_SH, I, J) (fun r σ => r = some (.int (ob (fS np pd))) ∧ ∃ I' : Nat → Nat → Int32, zSc I I' ∧ σ = (zz_SH, I', J)) := by
  refine EvM.of (by decide) rfl (Nat.le_of_ble_eq_true rfl) ?_
  show Ev _ _ _ _ _ 0 [some (.ref 359), some (.int (nI 0))] [] (zz_SH, I, J) _
  refine Ev.run [(.iload_n 1, 1), (.iconst 0, 1), (.iconst 1, 1)] (pc' := 3) (L' := [some (.ref 359), some (.int (nI 0))]) (S' := [.int (nI 1), .int (nI 0), .int (nI 0)]) rfl (by decide +kernel) rfl ?_
  refine Ev.callS0 mX7_in [.int (nI 0), .int (nI 0), .int (nI 1)] [] _ rfl lk_RX7_79 (by decide +kernel) rfl (Nat.le_of_ble_eq_true rfl) (c_X7_in I J (nI 0) (nI 0) (nI 1)) ?_
  rintro _ _ ⟨rfl, ⟨rfl, h3⟩ | ⟨rfl, h3⟩⟩
  · show Ev _ _ _ _ _ 6 [some (.ref 359), some (.int (nI 0))] [.int (nI 1)] (zz_SH, I, J) _
    refine Ev.if_eq (off := 11) (tgt := 17) (by decide +kernel) (by decide) (fun h6 => absurd h6 (by decide)) (fun h6 => ?_)
    refine Ev.run [(.aload_n 0, 1), (.iload_n 1, 1)] (pc' := 11) (L' := [some (.ref 359), some (.int (nI 0))]) (S' := [.int (nI 0), .ref 359]) rfl (by decide +kernel) rfl ?_
    refine Ev.callV0 mX7_faultOf [.int (nI 0)] [] _ rfl lk_RX7_96 (by decide +kernel) (rfl) rfl rfl rfl (Nat.le_of_ble_eq_true rfl) (c_X7_faultOf_0 I J np pd hn hpd hnp hpr) ?_
    rintro _ _ ⟨rfl, I1, hs1, rfl⟩
    show Ev _ _ _ _ _ 14 [some (.ref 359), some (.int (nI 0))] [.int (ob (fS np pd))] (zz_SH, I1, J) _
    refine Ev.goto (off := 5) (tgt := 19) (by decide +kernel) (by decide) ?_
    exact Ev.iret rfl (by decide +kernel) (⟨rfl, I1, hs1.sc, rfl⟩)
  · exact absurd (by decide) h3

set_option maxRecDepth 100000 in
set_option maxHeartbeats 4000000 in
theorem c_X7_fault_1 {sc : Nat × (Nat → Int32)} {d : Nat} (I : Nat → Nat → Int32) (J : Nat → Nat → Int64) (np : Nat) (pd : Nat → Nat) (hn : I 359 0 = nI np) (hpd : ∀ j, j < np → I 360 j = nI (pd j)) (hnp : np ≤ 30) (hpr : ∀ j, j < np → 33 ≤ pd j ∧ pd j ≤ 126) : EvM sc (d + 3) 0 0 mX7_fault [.ref 359, .int (nI 1)] (zz_SH, I, J) (fun r σ => r = some (.int (ob (fP np pd))) ∧ ∃ I' : Nat → Nat → Int32, zSc I I' ∧ σ = (zz_SH, I', J)) := by
  refine EvM.of (by decide) rfl (Nat.le_of_ble_eq_true rfl) ?_
  show Ev _ _ _ _ _ 0 [some (.ref 359), some (.int (nI 1))] [] (zz_SH, I, J) _
  refine Ev.run [(.iload_n 1, 1), (.iconst 0, 1), (.iconst 1, 1)] (pc' := 3) (L' := [some (.ref 359), some (.int (nI 1))]) (S' := [.int (nI 1), .int (nI 0), .int (nI 1)]) rfl (by decide +kernel) rfl ?_
  refine Ev.callS0 mX7_in [.int (nI 1), .int (nI 0), .int (nI 1)] [] _ rfl lk_RX7_79 (by decide +kernel) rfl (Nat.le_of_ble_eq_true rfl) (c_X7_in I J (nI 1) (nI 0) (nI 1)) ?_
  rintro _ _ ⟨rfl, ⟨rfl, h3⟩ | ⟨rfl, h3⟩⟩
  · show Ev _ _ _ _ _ 6 [some (.ref 359), some (.int (nI 1))] [.int (nI 1)] (zz_SH, I, J) _
    refine Ev.if_eq (off := 11) (tgt := 17) (by decide +kernel) (by decide) (fun h6 => absurd h6 (by decide)) (fun h6 => ?_)
    refine Ev.run [(.aload_n 0, 1), (.iload_n 1, 1)] (pc' := 11) (L' := [some (.ref 359), some (.int (nI 1))]) (S' := [.int (nI 1), .ref 359]) rfl (by decide +kernel) rfl ?_
    refine Ev.callV0 mX7_faultOf [.int (nI 1)] [] _ rfl lk_RX7_96 (by decide +kernel) (rfl) rfl rfl rfl (Nat.le_of_ble_eq_true rfl) (c_X7_faultOf_1 I J np pd hn hpd hnp hpr) ?_
    rintro _ _ ⟨rfl, I1, hs1, hq1, rfl⟩
    show Ev _ _ _ _ _ 14 [some (.ref 359), some (.int (nI 1))] [.int (ob (fP np pd))] (zz_SH, I1, J) _
    refine Ev.goto (off := 5) (tgt := 19) (by decide +kernel) (by decide) ?_
    exact Ev.iret rfl (by decide +kernel) (⟨rfl, I1, hs1.sc, rfl⟩)
  · exact absurd (by decide) h3

set_option maxRecDepth 100000 in
set_option maxHeartbeats 4000000 in
theorem c_X7_fault_o {sc : Nat × (Nat → Int32)} {d : Nat} (I : Nat → Nat → Int32) (J : Nat → Nat → Int64) (x : Int32) (hx : ¬ zz_ix x 2) : EvM sc (d + 3) 0 0 mX7_fault [.ref 359, .int x] (zz_SH, I, J) (zz_is (.int (-2)) (zz_SH, I, J)) := by
  refine EvM.of (by decide) rfl (Nat.le_of_ble_eq_true rfl) ?_
  show Ev _ _ _ _ _ 0 [some (.ref 359), some (.int x)] [] (zz_SH, I, J) _
  refine Ev.run [(.iload_n 1, 1), (.iconst 0, 1), (.iconst 1, 1)] (pc' := 3) (L' := [some (.ref 359), some (.int x)]) (S' := [.int (nI 1), .int (nI 0), .int x]) rfl (by decide +kernel) rfl ?_
  refine Ev.callS0 mX7_in [.int x, .int (nI 0), .int (nI 1)] [] _ rfl lk_RX7_79 (by decide +kernel) rfl (Nat.le_of_ble_eq_true rfl) (c_X7_in I J x (nI 0) (nI 1)) ?_
  rintro _ _ ⟨rfl, ⟨rfl, h3⟩ | ⟨rfl, h3⟩⟩
  · rw [show (nI 1 : Int32) = nI 2 - nI 1 by decide, zz_ix_iff (by decide)] at h3; exact absurd h3 hx
  · show Ev _ _ _ _ _ 6 [some (.ref 359), some (.int x)] [.int (nI 0)] (zz_SH, I, J) _
    refine Ev.if_eq (off := 11) (tgt := 17) (by decide +kernel) (by decide) (fun h6 => ?_) (fun h6 => absurd h6 (by decide))
    refine Ev.run [(.bipush (-2), 2)] (pc' := 19) (L' := [some (.ref 359), some (.int x)]) (S' := [.int ((-2))]) rfl (by decide +kernel) rfl ?_
    exact Ev.iret rfl (by decide +kernel) (⟨rfl, rfl⟩)
