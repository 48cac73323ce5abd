/-! ===== the class: the order ===== -/
def mvx (x : Option (Nat × Nat)) : Nat := match x with
  | none => 1000000
  | some (v, _) => v
theorem zz_bit {a k : Nat} : (a &&& 2 ^ k) = 0 ↔ a.testBit k = false := by
  constructor
  · intro h
    cases hb : a.testBit k with
    | false => rfl
    | true => exact absurd h (zz_and_ne.mpr ⟨k, hb, by rw [Nat.testBit_two_pow]; simp⟩)
  · intro h
    apply Classical.byContradiction
    intro hc
    obtain ⟨j, h1, h2⟩ := zz_and_ne.mp hc
    rw [Nat.testBit_two_pow, decide_eq_true_iff] at h2
    rw [← h2, h] at h1
    cases h1
theorem mvx_lt {A : zA} (hW : WF A) {done k : Nat} (hk : k ≤ aM A) : mvx (mno A (BT A) done k) ≤ 1000000 := by
  cases hx : mno A (BT A) done k with
  | none => exact Nat.le_refl _
  | some y =>
    obtain ⟨w, k'⟩ := y
    have := (mov_lt hW hk hx).1
    show w ≤ 1000000
    omega
theorem mno_ge {A : zA} (hW : WF A) {done k : Nat} (hk : k < aM A) (hb : done.testBit k = false) (h : cst A k done + BT A (done ||| 2 ^ k) ≥ mvx (mno A (BT A) done k)) : mno A (BT A) done (k + 1) = mno A (BT A) done k := by
  cases hx : mno A (BT A) done k with
  | none =>
    rw [hx] at h
    have a2 := cst_le hW hk done
    have a3 := BT_le hW (done ||| 2 ^ k)
    have h9 : (1000000 : Nat) ≤ cst A k done + BT A (done ||| 2 ^ k) := h
    omega
  | some y =>
    obtain ⟨w, k'⟩ := y
    rw [hx] at h
    have h9 : w ≤ cst A k done + BT A (done ||| 2 ^ k) := h
    rw [mno_s hb hx, if_neg (by omega)]
theorem mno_lt {A : zA} {done k : Nat} (hb : done.testBit k = false) (h : cst A k done + BT A (done ||| 2 ^ k) < mvx (mno A (BT A) done k)) : mno A (BT A) done (k + 1) = some (cst A k done + BT A (done ||| 2 ^ k), k) := by
  cases hx : mno A (BT A) done k with
  | none => rw [mno_n hb hx]
  | some y =>
    obtain ⟨w, k'⟩ := y
    rw [hx] at h
    have h9 : cst A k done + BT A (done ||| 2 ^ k) < w := h
    rw [mno_s hb hx, if_pos h9]
theorem zz_p1 (x : Int32) : x + (-1) = x - nI 1 := by
  rw [Int32.sub_eq_add_neg]; rfl
theorem zz_dm {x : Nat} (hx : x < 2 ^ 30) (h : nI x - nI 1 < 0) : x = 0 := by
  rcases Nat.eq_zero_or_pos x with q | q
  · exact q
  · rw [zz_sub (c := x - 1) (by omega)] at h
    exact absurd h (nI_pos (by omega))
theorem zz_dp {x : Nat} (h : ¬ nI x - nI 1 < 0) : 1 ≤ x := by
  rcases Nat.eq_zero_or_pos x with q | q
  · rw [q] at h; exact absurd (by decide) h
  · exact q
theorem zz_row326 : zz_row 326 10 := ⟨rfl, rfl, by decide⟩

set_option maxRecDepth 100000 in
set_option maxHeartbeats 4000000 in
theorem l_X3_cn {sc : Nat × (Nat → Int32)} {d : Nat} (I : Nat → Nat → Int32) (J : Nat → Nat → Int64) (A : zA) (hC : CR 3 I A) (hW : WF A) (hR : RB A I) (hH : HB A I) (done : Nat) (hd : done < 2 ^ aM A - 1) (hT : ∀ x, done < x → x < 2 ^ aM A → I 323 x = nI (BT A x)) : ∀ (μ : Nat) (k : Nat) (h : Nat → Int32), aM A - k < μ → (k ≤ aM A) → (∀ x, x ≠ done → h x = I 324 x) → (∀ w j, mno A (BT A) done k = some (w, j) → h done = nI j) →  Ev sc (d + 2) 0 0 mX3_chooseNext 6 [some (.ref 310), some (.ref 3), some (.int (nI done)), some (.int (nI (mvx (mno A (BT A) done k)))), some (.int (nI k)), none] [] (zz_SH, zz_cs I 324 h, J) (fun r σ => r = none ∧ ∃ I' : Nat → Nat → Int32, (∀ c, c ≠ 323 → c ≠ 324 → I' c = I c) ∧ (∀ x, x ≠ done → I' 323 x = I 323 x ∧ I' 324 x = I 324 x) ∧ I' 323 done = nI (BT A done) ∧ I' 324 done = nI (nxt A done) ∧ σ = (zz_SH, I', J)) := by
  intro μ
  induction μ with
  | zero => intro k h hμ; exact absurd hμ (Nat.not_lt_zero _)
  | succ μ ih =>
    intro k h hμ hk hh1 hh2
    have w1 := hW.1.1
    have w2 := hW.1.2.1
    have p2 : (2 : Nat) ^ aM A ≤ 2 ^ 10 := zz_pw2 w2
    have hC1 : CR 3 (zz_cs I 324 h) A := (zCq.cs I 324 h (by decide)).cr hW hC
    have m1 := mvx_lt (A := A) hW (done := done) hk
    refine Ev.run [(.iload 4, 2), (.aload_n 1, 1), (.getfield 67, 3)] (pc' := 12) (L' := [some (.ref 310), some (.ref 3), some (.int (nI done)), some (.int (nI (mvx (mno A (BT A) done k)))), some (.int (nI k)), none]) (S' := [.int ((zz_cs I 324 h) 3 11), .int (nI k)]) rfl (by decide +kernel) rfl ?_
    rw [show (zz_cs I 324 h) 3 11 = nI (aM A) from hC1.1.1.2]
    refine Ev.icmp_ge (off := 45) (tgt := 57) (by decide +kernel) (by decide) (fun h12 => ?_) (fun h12 => ?_)
    · have h12 : k ≥ (aM A) := zz_bG_t (by omega) (by omega) h12
      have hkM : k = aM A := by omega
      refine Ev.run [(.aload_n 0, 1), (.getfield 20, 3), (.iload_n 2, 1), (.iload_n 3, 1)] (pc' := 63) (L' := [some (.ref 310), some (.ref 3), some (.int (nI done)), some (.int (nI (mvx (mno A (BT A) done k)))), some (.int (nI k)), none]) (S' := [.int (nI (mvx (mno A (BT A) done k))), .int (nI done), .ref 323]) rfl (by decide +kernel) rfl ?_
      refine Ev.iast done (by decide +kernel) (rfl) (rfl) (by omega) (by first | decide | omega) ?_
      dsimp only
      obtain ⟨w9, y1, y2, y3, y4, -⟩ := nxt_spec (A := A) (zz_miss hd)
      exact Ev.vret rfl (by decide +kernel) (⟨rfl, _, fun c h1 h2 => by rw [zz_up_ne h1, zz_cs_ne h2], fun x hx => ⟨by rw [zz_up_eq, zz_upn hx, zz_cs_ne (by decide)], by rw [zz_up_ne (by decide), zz_cs_eq]; exact hh1 x hx⟩, by rw [zz_up_eq, zz_ups, hkM, BT_rec w2 hd, y1]; rfl, by rw [zz_up_ne (by decide), zz_cs_eq]; exact hh2 w9 _ (by rw [hkM]; exact y1), rfl⟩)
    · have h12 : k < (aM A) := zz_bG_f (by omega) (by omega) h12
      have q1 : done &&& 2 ^ k ≤ done := Nat.and_le_left
      have a2 := cst_le hW h12 done
      have a3 := BT_le hW (done ||| 2 ^ k)
      refine Ev.run [(.iload_n 2, 1), (.iconst 1, 1), (.iload 4, 2), (.ishl, 1)] (pc' := 20) (L' := [some (.ref 310), some (.ref 3), some (.int (nI done)), some (.int (nI (mvx (mno A (BT A) done k)))), some (.int (nI k)), none]) (S' := [.int ((nI 1) <<< (nI k &&& 31)), .int (nI done)]) rfl (by decide +kernel) rfl ?_
      rw [zz_shl1 (k := k) (by omega)]
      refine Ev.run [(.iand, 1)] (pc' := 21) (L' := [some (.ref 310), some (.ref 3), some (.int (nI done)), some (.int (nI (mvx (mno A (BT A) done k)))), some (.int (nI k)), none]) (S' := [.int (nI done &&& nI (2 ^ k))]) rfl (by decide +kernel) rfl ?_
      rw [zz_and done (2 ^ k)]
      refine Ev.if_ne (off := 30) (tgt := 51) (by decide +kernel) (by decide) (fun h21 => ?_) (fun h21 => ?_)
      · have h21 : ¬ (done &&& (2 ^ k)) = 0 := zz_bE_f (by omega) (by omega) h21
        have hbt : ¬ (done &&& 2 ^ k) = 0 → done.testBit k = true := fun q => by cases hb : done.testBit k; exact absurd (zz_bit.mpr hb) q; rfl
        refine Ev.run [(.iinc 4 1, 3)] (pc' := 54) (L' := [some (.ref 310), some (.ref 3), some (.int (nI done)), some (.int (nI (mvx (mno A (BT A) done k)))), some (.int (nI k + 1)), none]) (S' := []) rfl (by decide +kernel) rfl ?_
        rw [nI_1 k]
        refine Ev.goto (off := (-48)) (tgt := 6) (by decide +kernel) (by decide) ?_
        have e9 := mno_t (A := A) (B := BT A) (hbt h21)
        rw [← e9]
        exact ih (k + 1) h (by omega) (by omega) hh1 (fun w j e => hh2 w j (by rw [← e9]; exact e))
      · have h21 : (done &&& (2 ^ k)) = 0 := zz_bE_t (by omega) (by omega) h21
        have h21 := zz_bit.mp h21
        have q5 := zz_or_gt h21
        have q6 := zz_or_lt (show done < 2 ^ aM A by omega) h12
        refine Ev.run [(.aload_n 0, 1), (.aload_n 1, 1), (.iload_n 2, 1), (.iload 4, 2)] (pc' := 29) (L' := [some (.ref 310), some (.ref 3), some (.int (nI done)), some (.int (nI (mvx (mno A (BT A) done k)))), some (.int (nI k)), none]) (S' := [.int (nI k), .int (nI done), .ref 3, .ref 310]) rfl (by decide +kernel) rfl ?_
        refine Ev.callV0 mX3_priceWith [.ref 3, .int (nI done), .int (nI k)] [] _ rfl lk_RX3_101 (by decide +kernel) (rfl) rfl rfl rfl (Nat.le_of_ble_eq_true rfl) (c_X3_priceWith (zz_cs I 324 h) J A hC1 hW (fun t ht => by rw [zz_cs_ne (by decide)]; exact hR t ht) (fun t ht b hb => by rw [zz_cs_ne (by omega)]; exact hH t ht b hb) done k (by omega) h12 (by rw [zz_cs_ne (by decide)]; exact hT _ q5 q6)) ?_
        rintro _ _ ⟨rfl, rfl⟩
        show Ev _ _ _ _ _ 32 [some (.ref 310), some (.ref 3), some (.int (nI done)), some (.int (nI (mvx (mno A (BT A) done k)))), some (.int (nI k)), none] [.int (nI (cst A k done + BT A (done ||| 2 ^ k)))] (zz_SH, zz_cs I 324 h, J) _
        refine Ev.run [(.istore 5, 2), (.iload 5, 2), (.iload_n 3, 1)] (pc' := 37) (L' := [some (.ref 310), some (.ref 3), some (.int (nI done)), some (.int (nI (mvx (mno A (BT A) done k)))), some (.int (nI k)), some (.int (nI (cst A k done + BT A (done ||| 2 ^ k))))]) (S' := [.int (nI (mvx (mno A (BT A) done k))), .int (nI (cst A k done + BT A (done ||| 2 ^ k)))]) rfl (by decide +kernel) rfl ?_
        refine Ev.icmp_ge (off := 14) (tgt := 51) (by decide +kernel) (by decide) (fun h37 => ?_) (fun h37 => ?_)
        · have h37 : (cst A k done + BT A (done ||| 2 ^ k)) ≥ (mvx (mno A (BT A) done k)) := zz_bG_t (by omega) (by omega) h37
          refine Ev.run [(.iinc 4 1, 3)] (pc' := 54) (L' := [some (.ref 310), some (.ref 3), some (.int (nI done)), some (.int (nI (mvx (mno A (BT A) done k)))), some (.int (nI k + 1)), some (.int (nI (cst A k done + BT A (done ||| 2 ^ k))))]) (S' := []) rfl (by decide +kernel) rfl ?_
          rw [nI_1 k]
          refine Ev.goto (off := (-48)) (tgt := 6) (by decide +kernel) (by decide) ?_
          refine Ev.weakL (L' := [some (.ref 310), some (.ref 3), some (.int (nI done)), some (.int (nI (mvx (mno A (BT A) done k)))), some (.int (nI (k + 1))), none]) ⟨rfl, rfl, rfl, rfl, rfl, trivial⟩ ?_
          have e9 := mno_ge hW (by omega) h21 h37
          rw [← e9]
          exact ih (k + 1) h (by omega) (by omega) hh1 (fun w j e => hh2 w j (by rw [← e9]; exact e))
        · have h37 : (cst A k done + BT A (done ||| 2 ^ k)) < (mvx (mno A (BT A) done k)) := zz_bG_f (by omega) (by omega) h37
          refine Ev.run [(.iload 5, 2), (.istore_n 3, 1), (.aload_n 0, 1), (.getfield 23, 3), (.iload_n 2, 1), (.iload 4, 2)] (pc' := 50) (L' := [some (.ref 310), some (.ref 3), some (.int (nI done)), some (.int (nI (cst A k done + BT A (done ||| 2 ^ k)))), some (.int (nI k)), some (.int (nI (cst A k done + BT A (done ||| 2 ^ k))))]) (S' := [.int (nI k), .int (nI done), .ref 324]) rfl (by decide +kernel) rfl ?_
          refine Ev.iast done (by decide +kernel) (rfl) (rfl) (by omega) (by first | decide | omega) ?_
          dsimp only
          refine Ev.run [(.iinc 4 1, 3)] (pc' := 54) (L' := [some (.ref 310), some (.ref 3), some (.int (nI done)), some (.int (nI (cst A k done + BT A (done ||| 2 ^ k)))), some (.int (nI k + 1)), some (.int (nI (cst A k done + BT A (done ||| 2 ^ k))))]) (S' := []) rfl (by decide +kernel) rfl ?_
          rw [nI_1 k]
          refine Ev.goto (off := (-48)) (tgt := 6) (by decide +kernel) (by decide) ?_
          refine Ev.weakL (L' := [some (.ref 310), some (.ref 3), some (.int (nI done)), some (.int (nI (cst A k done + BT A (done ||| 2 ^ k)))), some (.int (nI (k + 1))), none]) ⟨rfl, rfl, rfl, rfl, rfl, trivial⟩ ?_
          have e9 := mno_lt h21 h37
          rw [zz_cs_up, show cst A k done + BT A (done ||| 2 ^ k) = mvx (mno A (BT A) done (k + 1)) from by rw [e9]; rfl]
          refine ih (k + 1) _ (by omega) (by omega) (fun x hx => by rw [zz_upn hx]; exact hh1 x hx) (fun w j e => ?_)
          rw [e9] at e
          cases e
          rw [zz_ups]

set_option maxRecDepth 100000 in
set_option maxHeartbeats 4000000 in
theorem c_X3_chooseNext {sc : Nat × (Nat → Int32)} {d : Nat} (I : Nat → Nat → Int32) (J : Nat → Nat → Int64) (A : zA) (hC : CR 3 I A) (hW : WF A) (hR : RB A I) (hH : HB A I) (done : Nat) (hd : done < 2 ^ aM A - 1) (hT : ∀ x, done < x → x < 2 ^ aM A → I 323 x = nI (BT A x)) : EvM sc (d + 2) 0 0 mX3_chooseNext [.ref 310, .ref 3, .int (nI done)] (zz_SH, I, J) (fun r σ => r = none ∧ ∃ I' : Nat → Nat → Int32, (∀ c, c ≠ 323 → c ≠ 324 → I' c = I c) ∧ (∀ x, x ≠ done → I' 323 x = I 323 x ∧ I' 324 x = I 324 x) ∧ I' 323 done = nI (BT A done) ∧ I' 324 done = nI (nxt A done) ∧ σ = (zz_SH, I', J)) := by
  have w1 := hW.1.1
  have w2 := hW.1.2.1
  have p2 : (2 : Nat) ^ aM A ≤ 2 ^ 10 := zz_pw2 w2
  refine EvM.of (by decide) rfl (Nat.le_of_ble_eq_true rfl) ?_
  show Ev _ _ _ _ _ 0 [some (.ref 310), some (.ref 3), some (.int (nI done)), none, none, none] [] (zz_SH, I, J) _
  refine Ev.ldc (idx := 100) (v := 1000000) (by decide +kernel) (by decide +kernel) ?_
  refine Ev.run [(.istore_n 3, 1), (.iconst 0, 1), (.istore 4, 2)] (pc' := 6) (L' := [some (.ref 310), some (.ref 3), some (.int (nI done)), some (.int (nI 1000000)), some (.int (nI 0)), none]) (S' := []) rfl (by decide +kernel) rfl ?_
  have h0 := l_X3_cn (sc := sc) (d := d) I J A hC hW hR hH done hd hT (aM A + 1) 0 (I 324) (by omega) (by omega) (fun _ _ => rfl) (fun w j e => by cases e)
  rw [zz_cs_id] at h0
  exact h0

set_option maxRecDepth 100000 in
set_option maxHeartbeats 4000000 in
theorem l_X3_po2 {sc : Nat × (Nat → Int32)} {d : Nat} (I : Nat → Nat → Int32) (J : Nat → Nat → Int64) (A : zA) (hC : CR 3 I A) (hW : WF A) : ∀ (μ : Nat) (i : Nat) (I1 : Nat → Nat → Int32), aM A - i < μ → (i ≤ aM A) → (zCq I I1) → (∀ x, x < 2 ^ aM A - 1 → I1 324 x = nI (nxt A x)) → (I1 323 0 = nI (BT A 0)) → (zz_rf I1 326 i (fun t => nxt A (dn A t))) →  Ev sc (d + 3) 0 0 mX3_putInOrder 59 [some (.ref 310), some (.ref 3), some (.int (nI (2 ^ (aM A) - 1))), some (.int (nI (dn A i))), some (.int (nI i)), none] [] (zz_SH, I1, J) (fun r σ => r = none ∧ ∃ I' : Nat → Nat → Int32, zCq I I' ∧ I' 323 0 = nI (BT A 0) ∧ zz_rf I' 326 (aM A) (fun i => nxt A (dn A i)) ∧ σ = (zz_SH, I', J)) := by
  intro μ
  induction μ with
  | zero => intro i I1 hμ; exact absurd hμ (Nat.not_lt_zero _)
  | succ μ ih =>
    intro i I1 hμ hi hq hT h0 hrf
    have w1 := hW.1.1
    have w2 := hW.1.2.1
    have p2 : (2 : Nat) ^ aM A ≤ 2 ^ 10 := zz_pw2 w2
    refine Ev.run [(.iload 4, 2), (.aload_n 1, 1), (.getfield 67, 3)] (pc' := 65) (L' := [some (.ref 310), some (.ref 3), some (.int (nI (2 ^ (aM A) - 1))), some (.int (nI (dn A i))), some (.int (nI i)), none]) (S' := [.int (I1 3 11), .int (nI i)]) rfl (by decide +kernel) rfl ?_
    rw [show I1 3 11 = nI (aM A) from by rw [hq 3 (by omega)]; exact hC.1.1.2]
    refine Ev.icmp_ge (off := 34) (tgt := 99) (by decide +kernel) (by decide) (fun h65 => ?_) (fun h65 => ?_)
    · have h65 : i ≥ (aM A) := zz_bG_t (by omega) (by omega) h65
      have hiM : aM A = i := by omega
      exact Ev.vret rfl (by decide +kernel) (⟨rfl, I1, hq, h0, by rw [hiM]; exact hrf, rfl⟩)
    · have h65 : i < (aM A) := zz_bG_f (by omega) (by omega) h65
      obtain ⟨w9, y1, y2, y3, y4, -⟩ := nxt_spec (A := A) (dn_miss A h65)
      have y5 := (dn_spec A i (by omega)).1
      have y6 := zz_full y5 (dn_miss A h65)
      refine Ev.run [(.aload_n 0, 1), (.getfield 23, 3), (.iload_n 3, 1)] (pc' := 73) (L' := [some (.ref 310), some (.ref 3), some (.int (nI (2 ^ (aM A) - 1))), some (.int (nI (dn A i))), some (.int (nI i)), none]) (S' := [.int (nI (dn A i)), .ref 324]) rfl (by decide +kernel) rfl ?_
      refine Ev.iald (dn A i) (by decide +kernel) (rfl) (rfl) (by omega) (by first | decide | omega) ?_
      dsimp only
      rw [hT _ y6]
      refine Ev.run [(.istore 5, 2), (.aload_n 0, 1), (.getfield 34, 3), (.iload 5, 2)] (pc' := 82) (L' := [some (.ref 310), some (.ref 3), some (.int (nI (2 ^ (aM A) - 1))), some (.int (nI (dn A i))), some (.int (nI i)), some (.int (nI (nxt A (dn A i))))]) (S' := [.int (nI (nxt A (dn A i))), .ref 326]) rfl (by decide +kernel) rfl ?_
      refine Ev.callV0 mX4_add [.int (nI (nxt A (dn A i)))] [] _ rfl lk_RX3_84 (by decide +kernel) (rfl) rfl rfl rfl (Nat.le_of_ble_eq_true rfl) (c_X4_add_ok I1 J 326 10 i (nI (nxt A (dn A i))) zz_row326 hrf.1 (by omega)) ?_
      rintro _ _ ⟨rfl, rfl⟩
      show Ev _ _ _ _ _ 85 [some (.ref 310), some (.ref 3), some (.int (nI (2 ^ (aM A) - 1))), some (.int (nI (dn A i))), some (.int (nI i)), some (.int (nI (nxt A (dn A i))))] [.int (nI 1)] (zz_SH, zz_up (zz_up I1 (326 + 1) i (nI (nxt A (dn A i)))) 326 1 (nI (i + 1)), J) _
      refine Ev.run [(.pop, 1), (.iload_n 3, 1), (.iconst 1, 1), (.iload 5, 2), (.ishl, 1)] (pc' := 91) (L' := [some (.ref 310), some (.ref 3), some (.int (nI (2 ^ (aM A) - 1))), some (.int (nI (dn A i))), some (.int (nI i)), some (.int (nI (nxt A (dn A i))))]) (S' := [.int ((nI 1) <<< (nI (nxt A (dn A i)) &&& 31)), .int (nI (dn A i))]) rfl (by decide +kernel) rfl ?_
      rw [zz_shl1 (k := (nxt A (dn A i))) (by omega)]
      refine Ev.run [(.ior, 1)] (pc' := 92) (L' := [some (.ref 310), some (.ref 3), some (.int (nI (2 ^ (aM A) - 1))), some (.int (nI (dn A i))), some (.int (nI i)), some (.int (nI (nxt A (dn A i))))]) (S' := [.int (nI (dn A i) ||| nI (2 ^ (nxt A (dn A i))))]) rfl (by decide +kernel) rfl ?_
      rw [zz_or (dn A i) (2 ^ (nxt A (dn A i)))]
      refine Ev.run [(.istore_n 3, 1), (.iinc 4 1, 3)] (pc' := 96) (L' := [some (.ref 310), some (.ref 3), some (.int (nI (2 ^ (aM A) - 1))), some (.int (nI ((dn A i) ||| (2 ^ (nxt A (dn A i)))))), some (.int (nI i + 1)), some (.int (nI (nxt A (dn A i))))]) (S' := []) rfl (by decide +kernel) rfl ?_
      rw [nI_1 i]
      refine Ev.goto (off := (-37)) (tgt := 59) (by decide +kernel) (by decide) ?_
      refine Ev.weakL (L' := [some (.ref 310), some (.ref 3), some (.int (nI (2 ^ (aM A) - 1))), some (.int (nI (dn A i ||| 2 ^ (nxt A (dn A i))))), some (.int (nI (i + 1))), none]) ⟨rfl, rfl, rfl, rfl, rfl, trivial⟩ ?_
      refine ih (i + 1) _ (by omega) (by omega) (fun c hc => by rw [zz_up_ne (by omega), zz_up_ne (by omega)]; exact hq c hc) (fun x hx => by rw [zz_up_ne (by decide), zz_up_ne (by decide)]; exact hT x hx) (by rw [zz_up_ne (by decide), zz_up_ne (by decide)]; exact h0) ⟨by rw [zz_up_eq, zz_ups], fun j hj => ?_⟩
      rw [zz_up_ne (by decide), zz_up_eq]
      by_cases e : j = i
      · rw [e, zz_ups]
      · rw [zz_upn e]; exact hrf.2 j (by omega)

set_option maxRecDepth 100000 in
set_option maxHeartbeats 4000000 in
theorem l_X3_po1 {sc : Nat × (Nat → Int32)} {d : Nat} (I : Nat → Nat → Int32) (J : Nat → Nat → Int64) (A : zA) (hC : CR 3 I A) (hW : WF A) : ∀ (μ : Nat) (x : Nat) (I1 : Nat → Nat → Int32), x < μ → (x ≤ 2 ^ aM A - 1) → (zCq I I1) → (RB A I1) → (HB A I1) → (∀ y, x ≤ y → y < 2 ^ aM A → I1 323 y = nI (BT A y) ∧ (y < 2 ^ aM A - 1 → I1 324 y = nI (nxt A y))) →  Ev sc (d + 3) 0 0 mX3_putInOrder 30 [some (.ref 310), some (.ref 3), some (.int (nI (2 ^ (aM A) - 1))), some (.int (nI x - nI 1)), none, none] [] (zz_SH, I1, J) (fun r σ => r = none ∧ ∃ I' : Nat → Nat → Int32, zCq I I' ∧ I' 323 0 = nI (BT A 0) ∧ zz_rf I' 326 (aM A) (fun i => nxt A (dn A i)) ∧ σ = (zz_SH, I', J)) := by
  intro μ
  induction μ with
  | zero => intro x I1 hμ; exact absurd hμ (Nat.not_lt_zero _)
  | succ μ ih =>
    intro x I1 hμ hx hq hR hH hT
    have w1 := hW.1.1
    have w2 := hW.1.2.1
    have p2 : (2 : Nat) ^ aM A ≤ 2 ^ 10 := zz_pw2 w2
    have hC1 := hq.cr hW hC
    have p1 : 0 < 2 ^ aM A := Nat.pow_pos (by decide)
    refine Ev.run [(.iload_n 3, 1)] (pc' := 31) (L' := [some (.ref 310), some (.ref 3), some (.int (nI (2 ^ (aM A) - 1))), some (.int (nI x - nI 1)), none, none]) (S' := [.int (nI x - nI 1)]) rfl (by decide +kernel) rfl ?_
    refine Ev.if_lt (off := 15) (tgt := 46) (by decide +kernel) (by decide) (fun h31 => ?_) (fun h31 => ?_)
    · have hx0 : x = 0 := zz_dm (by omega) h31
      refine Ev.run [(.aload_n 0, 1), (.getfield 34, 3), (.iconst 0, 1)] (pc' := 51) (L' := [some (.ref 310), some (.ref 3), some (.int (nI (2 ^ (aM A) - 1))), some (.int (nI x - nI 1)), none, none]) (S' := [.int (nI 0), .ref 326]) rfl (by decide +kernel) rfl ?_
      refine Ev.putf (idx := 60) rfl rfl rfl (by decide +kernel) (rfl) rfl ?_
      dsimp only
      refine Ev.run [(.iconst 0, 1), (.istore_n 3, 1), (.iconst 0, 1), (.istore 4, 2)] (pc' := 59) (L' := [some (.ref 310), some (.ref 3), some (.int (nI (2 ^ (aM A) - 1))), some (.int (nI 0)), some (.int (nI 0)), none]) (S' := []) rfl (by decide +kernel) rfl ?_
      exact l_X3_po2 I J A hC hW (aM A + 1) 0 _ (by omega) (by omega) (fun c hc => by rw [zz_up_ne (by omega)]; exact hq c hc) (fun y hy => by rw [zz_up_ne (by decide)]; exact (hT y (by omega) (by omega)).2 hy) (by rw [zz_up_ne (by decide)]; exact (hT 0 (by omega) (by omega)).1) ⟨by rw [zz_up_eq, zz_ups], fun j hj => absurd hj (Nat.not_lt_zero j)⟩
    · have hx1 : 1 ≤ x := zz_dp h31
      rw [show nI x - nI 1 = nI (x - 1) from zz_sub (by omega)]
      refine Ev.run [(.aload_n 0, 1), (.aload_n 1, 1), (.iload_n 3, 1)] (pc' := 37) (L' := [some (.ref 310), some (.ref 3), some (.int (nI (2 ^ (aM A) - 1))), some (.int (nI (x - 1))), none, none]) (S' := [.int (nI (x - 1)), .ref 3, .ref 310]) rfl (by decide +kernel) rfl ?_
      refine Ev.callV0 mX3_chooseNext [.ref 3, .int (nI (x - 1))] [] _ rfl lk_RX3_80 (by decide +kernel) (rfl) rfl rfl rfl (Nat.le_of_ble_eq_true rfl) (c_X3_chooseNext I1 J A hC1 hW hR hH (x - 1) (by omega) (fun y h1 h2 => (hT y (by omega) h2).1)) ?_
      rintro _ _ ⟨rfl, I2, g1, g2, g3, g4, rfl⟩
      show Ev _ _ _ _ _ 40 [some (.ref 310), some (.ref 3), some (.int (nI (2 ^ (aM A) - 1))), some (.int (nI (x - 1))), none, none] [] (zz_SH, I2, J) _
      refine Ev.run [(.iinc 3 (-1), 3)] (pc' := 43) (L' := [some (.ref 310), some (.ref 3), some (.int (nI (2 ^ (aM A) - 1))), some (.int (nI (x - 1) + (-1))), none, none]) (S' := []) rfl (by decide +kernel) rfl ?_
      refine Ev.goto (off := (-13)) (tgt := 30) (by decide +kernel) (by decide) ?_
      rw [zz_p1]
      refine ih (x - 1) I2 (by omega) (by omega) (hq.tr (fun c hc => g1 c (by omega) (by omega))) (fun t ht => by rw [g1 _ (by decide) (by decide)]; exact hR t ht) (fun t ht b hb => by rw [g1 _ (by omega) (by omega)]; exact hH t ht b hb) (fun y h1 h2 => ?_)
      by_cases e : y = x - 1
      · rw [e]; exact ⟨g3, fun _ => g4⟩
      · rw [(g2 y e).1, (g2 y e).2]; exact hT y (by omega) h2

set_option maxRecDepth 100000 in
set_option maxHeartbeats 4000000 in
theorem c_X3_putInOrder {sc : Nat × (Nat → Int32)} {d : Nat} (I : Nat → Nat → Int32) (J : Nat → Nat → Int64) (A : zA) (hC : CR 3 I A) (hW : WF A) : EvM sc (d + 3) 0 0 mX3_putInOrder [.ref 310, .ref 3] (zz_SH, I, J) (fun r σ => r = none ∧ ∃ I' : Nat → Nat → Int32, zCq I I' ∧ I' 323 0 = nI (BT A 0) ∧ zz_rf I' 326 (aM A) (fun i => nxt A (dn A i)) ∧ σ = (zz_SH, I', J)) := by
  have w1 := hW.1.1
  have w2 := hW.1.2.1
  have p2 : (2 : Nat) ^ aM A ≤ 2 ^ 10 := zz_pw2 w2
  have p1 : 0 < 2 ^ aM A := Nat.pow_pos (by decide)
  refine EvM.of (by decide) rfl (Nat.le_of_ble_eq_true rfl) ?_
  show Ev _ _ _ _ _ 0 [some (.ref 310), some (.ref 3), none, none, none, none] [] (zz_SH, I, J) _
  refine Ev.run [(.aload_n 0, 1), (.aload_n 1, 1)] (pc' := 2) (L' := [some (.ref 310), some (.ref 3), none, none, none, none]) (S' := [.ref 3, .ref 310]) rfl (by decide +kernel) rfl ?_
  refine Ev.callV0 mX3_readRatesByMemory [.ref 3] [] _ rfl lk_RX3_73 (by decide +kernel) (rfl) rfl rfl rfl (Nat.le_of_ble_eq_true rfl) (c_X3_readRates I J A hC hW) ?_
  rintro _ _ ⟨rfl, hh, r1, rfl⟩
  have hC1 : CR 3 (zz_cs I 311 hh) A := (zCq.cs I 311 hh (by decide)).cr hW hC
  show Ev _ _ _ _ _ 5 [some (.ref 310), some (.ref 3), none, none, none, none] [] (zz_SH, zz_cs I 311 hh, J) _
  refine Ev.run [(.aload_n 0, 1), (.aload_n 1, 1)] (pc' := 7) (L' := [some (.ref 310), some (.ref 3), none, none, none, none]) (S' := [.ref 3, .ref 310]) rfl (by decide +kernel) rfl ?_
  refine Ev.callV0 mX3_readHelpers [.ref 3] [] _ rfl lk_RX3_77 (by decide +kernel) (rfl) rfl rfl rfl (Nat.le_of_ble_eq_true rfl) (c_X3_readHelpers (zz_cs I 311 hh) J A hC1 hW) ?_
  rintro _ _ ⟨rfl, I2, s1, s2, rfl⟩
  have hq2 : zCq I I2 := fun c hc => by rw [s1 c (by omega), zz_cs_ne (by omega)]
  show Ev _ _ _ _ _ 10 [some (.ref 310), some (.ref 3), none, none, none, none] [] (zz_SH, I2, J) _
  refine Ev.run [(.iconst 1, 1), (.aload_n 1, 1), (.getfield 67, 3)] (pc' := 15) (L' := [some (.ref 310), some (.ref 3), none, none, none, none]) (S' := [.int (I2 3 11), .int (nI 1)]) rfl (by decide +kernel) rfl ?_
  rw [show I2 3 11 = nI (aM A) from by rw [hq2 3 (by omega)]; exact hC.1.1.2]
  refine Ev.run [(.ishl, 1)] (pc' := 16) (L' := [some (.ref 310), some (.ref 3), none, none, none, none]) (S' := [.int ((nI 1) <<< (nI (aM A) &&& 31))]) rfl (by decide +kernel) rfl ?_
  rw [zz_shl1 (k := (aM A)) (by omega)]
  refine Ev.run [(.iconst 1, 1), (.isub, 1)] (pc' := 18) (L' := [some (.ref 310), some (.ref 3), none, none, none, none]) (S' := [.int (nI (2 ^ (aM A)) - nI 1)]) rfl (by decide +kernel) rfl ?_
  rw [show nI (2 ^ (aM A)) - nI 1 = nI (2 ^ (aM A) - 1) from zz_sub (by omega)]
  refine Ev.run [(.istore_n 2, 1), (.aload_n 0, 1), (.getfield 20, 3), (.iload_n 2, 1), (.iconst 0, 1)] (pc' := 25) (L' := [some (.ref 310), some (.ref 3), some (.int (nI (2 ^ (aM A) - 1))), none, none, none]) (S' := [.int (nI 0), .int (nI (2 ^ (aM A) - 1)), .ref 323]) rfl (by decide +kernel) rfl ?_
  refine Ev.iast (2 ^ (aM A) - 1) (by decide +kernel) (rfl) (rfl) (by omega) (by first | decide | omega) ?_
  dsimp only
  refine Ev.run [(.iload_n 2, 1), (.iconst 1, 1), (.isub, 1)] (pc' := 29) (L' := [some (.ref 310), some (.ref 3), some (.int (nI (2 ^ (aM A) - 1))), none, none, none]) (S' := [.int (nI (2 ^ (aM A) - 1) - nI 1)]) rfl (by decide +kernel) rfl ?_
  rw [show nI (2 ^ (aM A) - 1) - nI 1 = nI (2 ^ (aM A) - 1) - nI 1 from rfl]
  refine Ev.run [(.istore_n 3, 1)] (pc' := 30) (L' := [some (.ref 310), some (.ref 3), some (.int (nI (2 ^ (aM A) - 1))), some (.int (nI (2 ^ (aM A) - 1) - nI 1)), none, none]) (S' := []) rfl (by decide +kernel) rfl ?_
  refine l_X3_po1 I J A hC hW (2 ^ aM A) (2 ^ aM A - 1) _ (by omega) (by omega) (fun c hc => by rw [zz_up_ne (by omega)]; exact hq2 c hc) (fun t ht => by rw [zz_up_ne (by decide), s1 _ (by decide), zz_cs_eq]; exact r1 t ht) (fun t ht b hb => by rw [zz_up_ne (by omega)]; exact s2 t ht b hb) (fun y h1 h2 => ?_)
  have e : y = 2 ^ aM A - 1 := by omega
  rw [e]
  exact ⟨by rw [zz_up_eq, zz_ups, BT_all], fun q => absurd q (Nat.lt_irrefl _)⟩

set_option maxRecDepth 100000 in
set_option maxHeartbeats 4000000 in
theorem c_X3_least {sc : Nat × (Nat → Int32)} {d : Nat} (I : Nat → Nat → Int32) (J : Nat → Nat → Int64) (v : Nat) (hv : I 323 0 = nI v) : EvM sc (d) 0 0 mX3_least [.ref 310] (zz_SH, I, J) (zz_is (.int (nI v)) (zz_SH, I, J)) := by
  refine EvM.of (by decide) rfl (Nat.le_of_ble_eq_true rfl) ?_
  show Ev _ _ _ _ _ 0 [some (.ref 310)] [] (zz_SH, I, J) _
  refine Ev.run [(.aload_n 0, 1), (.getfield 20, 3), (.iconst 0, 1)] (pc' := 5) (L' := [some (.ref 310)]) (S' := [.int (nI 0), .ref 323]) rfl (by decide +kernel) rfl ?_
  refine Ev.iald 0 (by decide +kernel) (rfl) (rfl) (by omega) (by first | decide | omega) ?_
  dsimp only
  rw [hv]
  exact Ev.iret rfl (by decide +kernel) (⟨rfl, rfl⟩)

set_option maxRecDepth 100000 in
set_option maxHeartbeats 4000000 in
theorem c_X6_order_l {sc : Nat × (Nat → Int32)} {d : Nat} (I : Nat → Nat → Int32) (J : Nat → Nat → Int64) (A : zA) (hC : CR 3 I A) (hW : WF A) : EvM sc (d + 4) 0 0 mX6_order [.ref 0, .int ((-1))] (zz_SH, I, J) (fun r σ => r = some (.int (nI (BT A 0))) ∧ ∃ I' : Nat → Nat → Int32, zCq I I' ∧ σ = (zz_SH, I', J)) := by
  have w1 := hW.1.1
  have w2 := hW.1.2.1
  refine EvM.of (by decide) rfl (Nat.le_of_ble_eq_true rfl) ?_
  show Ev _ _ _ _ _ 0 [some (.ref 0), some (.int ((-1)))] [] (zz_SH, I, J) _
  refine Ev.run [(.aload_n 0, 1), (.getfield 43, 3), (.aload_n 0, 1), (.getfield 21, 3)] (pc' := 8) (L' := [some (.ref 0), some (.int ((-1)))]) (S' := [.ref 3, .ref 310]) rfl (by decide +kernel) rfl ?_
  refine Ev.callV0 mX3_putInOrder [.ref 3] [] _ rfl lk_RX6_154 (by decide +kernel) (rfl) rfl rfl rfl (Nat.le_of_ble_eq_true rfl) (c_X3_putInOrder I J A hC hW) ?_
  rintro _ _ ⟨rfl, I1, hq, h0, hrf, rfl⟩
  show Ev _ _ _ _ _ 11 [some (.ref 0), some (.int ((-1)))] [] (zz_SH, I1, J) _
  refine Ev.run [(.iload_n 1, 1), (.iconst (-1), 1)] (pc' := 13) (L' := [some (.ref 0), some (.int ((-1)))]) (S' := [.int ((-1)), .int ((-1))]) rfl (by decide +kernel) rfl ?_
  refine Ev.icmp_ne (off := 13) (tgt := 26) (by decide +kernel) (by decide) (fun h13 => absurd h13 (by decide)) (fun h13 => ?_)
  refine Ev.run [(.aload_n 0, 1), (.getfield 43, 3)] (pc' := 20) (L' := [some (.ref 0), some (.int ((-1)))]) (S' := [.ref 310]) rfl (by decide +kernel) rfl ?_
  refine Ev.callV0 mX3_least [] [] _ rfl lk_RX6_158 (by decide +kernel) (rfl) rfl rfl rfl (Nat.le_of_ble_eq_true rfl) (c_X3_least I1 J (BT A 0) h0) ?_
  rintro _ _ ⟨rfl, rfl⟩
  show Ev _ _ _ _ _ 23 [some (.ref 0), some (.int ((-1)))] [.int (nI (BT A 0))] (zz_SH, I1, J) _
  refine Ev.goto (off := 14) (tgt := 37) (by decide +kernel) (by decide) ?_
  exact Ev.iret rfl (by decide +kernel) (⟨rfl, I1, hq, rfl⟩)

set_option maxRecDepth 100000 in
set_option maxHeartbeats 4000000 in
theorem c_X6_order_o {sc : Nat × (Nat → Int32)} {d : Nat} (I : Nat → Nat → Int32) (J : Nat → Nat → Int64) (A : zA) (hC : CR 3 I A) (hW : WF A) (y : Int32) (hy1 : ¬ y = (-1)) (hy : ¬ zz_ix y (aM A)) : EvM sc (d + 4) 0 0 mX6_order [.ref 0, .int y] (zz_SH, I, J) (fun r σ => r = some (.int (-6)) ∧ ∃ I' : Nat → Nat → Int32, zCq I I' ∧ σ = (zz_SH, I', J)) := by
  have w1 := hW.1.1
  have w2 := hW.1.2.1
  refine EvM.of (by decide) rfl (Nat.le_of_ble_eq_true rfl) ?_
  show Ev _ _ _ _ _ 0 [some (.ref 0), some (.int y)] [] (zz_SH, I, J) _
  refine Ev.run [(.aload_n 0, 1), (.getfield 43, 3), (.aload_n 0, 1), (.getfield 21, 3)] (pc' := 8) (L' := [some (.ref 0), some (.int y)]) (S' := [.ref 3, .ref 310]) rfl (by decide +kernel) rfl ?_
  refine Ev.callV0 mX3_putInOrder [.ref 3] [] _ rfl lk_RX6_154 (by decide +kernel) (rfl) rfl rfl rfl (Nat.le_of_ble_eq_true rfl) (c_X3_putInOrder I J A hC hW) ?_
  rintro _ _ ⟨rfl, I1, hq, h0, hrf, rfl⟩
  show Ev _ _ _ _ _ 11 [some (.ref 0), some (.int y)] [] (zz_SH, I1, J) _
  refine Ev.run [(.iload_n 1, 1), (.iconst (-1), 1)] (pc' := 13) (L' := [some (.ref 0), some (.int y)]) (S' := [.int ((-1)), .int y]) rfl (by decide +kernel) rfl ?_
  refine Ev.icmp_ne (off := 13) (tgt := 26) (by decide +kernel) (by decide) (fun h13 => ?_) (fun h13 => absurd h13 hy1)
  refine Ev.run [(.aload_n 0, 1), (.getfield 43, 3), (.getfield 161, 3), (.iload_n 1, 1)] (pc' := 34) (L' := [some (.ref 0), some (.int y)]) (S' := [.int y, .ref 326]) rfl (by decide +kernel) rfl ?_
  refine Ev.callV0 mX4_at [.int y] [] _ rfl lk_RX6_107 (by decide +kernel) (rfl) rfl rfl rfl (Nat.le_of_ble_eq_true rfl) (c_X4_at I1 J 326 10 y zz_row326) ?_
  rintro _ _ ⟨rfl, rfl⟩
  rw [zz_rat_no hrf.1 (by omega) hy]
  show Ev _ _ _ _ _ 37 [some (.ref 0), some (.int y)] [.int ((-6))] (zz_SH, I1, J) _
  exact Ev.iret rfl (by decide +kernel) (⟨rfl, I1, hq, rfl⟩)

set_option maxRecDepth 100000 in
set_option maxHeartbeats 4000000 in
theorem c_X6_order_i {sc : Nat × (Nat → Int32)} {d : Nat} (I : Nat → Nat → Int32) (J : Nat → Nat → Int64) (A : zA) (hC : CR 3 I A) (hW : WF A) (w : Nat) (hw : w < aM A) : EvM sc (d + 4) 0 0 mX6_order [.ref 0, .int (nI w)] (zz_SH, I, J) (fun r σ => r = some (.int (nI (nxt A (dn A w)))) ∧ ∃ I' : Nat → Nat → Int32, zCq I I' ∧ σ = (zz_SH, I', J)) := by
  have w1 := hW.1.1
  have w2 := hW.1.2.1
  refine EvM.of (by decide) rfl (Nat.le_of_ble_eq_true rfl) ?_
  show Ev _ _ _ _ _ 0 [some (.ref 0), some (.int (nI w))] [] (zz_SH, I, J) _
  refine Ev.run [(.aload_n 0, 1), (.getfield 43, 3), (.aload_n 0, 1), (.getfield 21, 3)] (pc' := 8) (L' := [some (.ref 0), some (.int (nI w))]) (S' := [.ref 3, .ref 310]) rfl (by decide +kernel) rfl ?_
  refine Ev.callV0 mX3_putInOrder [.ref 3] [] _ rfl lk_RX6_154 (by decide +kernel) (rfl) rfl rfl rfl (Nat.le_of_ble_eq_true rfl) (c_X3_putInOrder I J A hC hW) ?_
  rintro _ _ ⟨rfl, I1, hq, h0, hrf, rfl⟩
  show Ev _ _ _ _ _ 11 [some (.ref 0), some (.int (nI w))] [] (zz_SH, I1, J) _
  refine Ev.run [(.iload_n 1, 1), (.iconst (-1), 1)] (pc' := 13) (L' := [some (.ref 0), some (.int (nI w))]) (S' := [.int ((-1)), .int (nI w)]) rfl (by decide +kernel) rfl ?_
  refine Ev.icmp_ne (off := 13) (tgt := 26) (by decide +kernel) (by decide) (fun h13 => ?_) (fun h13 => absurd h13 (zz_nm w (by omega)))
  refine Ev.run [(.aload_n 0, 1), (.getfield 43, 3), (.getfield 161, 3), (.iload_n 1, 1)] (pc' := 34) (L' := [some (.ref 0), some (.int (nI w))]) (S' := [.int (nI w), .ref 326]) rfl (by decide +kernel) rfl ?_
  refine Ev.callV0 mX4_at [.int (nI w)] [] _ rfl lk_RX6_107 (by decide +kernel) (rfl) rfl rfl rfl (Nat.le_of_ble_eq_true rfl) (c_X4_at I1 J 326 10 (nI w) zz_row326) ?_
  rintro _ _ ⟨rfl, rfl⟩
  rw [zz_rf.at hrf w2 (by decide) hw]
  show Ev _ _ _ _ _ 37 [some (.ref 0), some (.int (nI w))] [.int (nI (nxt A (dn A w)))] (zz_SH, I1, J) _
  exact Ev.iret rfl (by decide +kernel) (⟨rfl, I1, hq, rfl⟩)
