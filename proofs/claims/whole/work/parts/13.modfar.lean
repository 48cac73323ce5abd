/-! ===== the model: likeness ===== -/
theorem zz_sub {a b c : Nat} (h : a = c + b) : nI a - nI b = nI c := by
  subst h
  rw [pk_sub (Nat.le_add_left _ _), Nat.add_sub_cancel]
def zz_wk : List (Option Value) → List (Option Value) → Prop
  | [], [] => True
  | none :: r, _ :: s => zz_wk r s
  | some v :: r, some w :: s => v = w ∧ zz_wk r s
  | _, _ => False
theorem zz_wk_spec : ∀ {A B : List (Option Value)}, zz_wk A B → A.length = B.length ∧ ∀ (i : Nat) (v : Value), A[i]? = some (some v) → B[i]? = some (some v)
  | [], [], _ => ⟨rfl, fun i v h => by simp at h⟩
  | none :: r, w :: s, h => by
    obtain ⟨h1, h2⟩ := zz_wk_spec (A := r) (B := s) (by cases w <;> exact h)
    refine ⟨by simp [h1], fun i v hi => ?_⟩
    cases i with
    | zero => simp at hi
    | succ i => exact h2 i v hi
  | some v :: r, some w :: s, h => by
    obtain ⟨e, h⟩ := h
    subst e
    obtain ⟨h1, h2⟩ := zz_wk_spec h
    refine ⟨by simp [h1], fun i v hi => ?_⟩
    cases i with
    | zero => exact hi
    | succ i => exact h2 i v hi
  | some v :: r, none :: s, h => by cases h
  | [], w :: s, h => by cases h
  | some v :: r, [], h => by cases h
  | none :: r, [], h => by cases h
theorem Ev.weakL {sc : Nat × (Nat → Int32)} {d mc ms : Nat} {M : zz_MD} {pc : Nat} {L L' : List (Option Value)} {S : List Value} {σ : zz_St} {Q : Option Value → zz_St → Prop} (h : zz_wk L' L) (k : Ev sc d mc ms M pc L' S σ Q) : Ev sc d mc ms M pc L S σ Q := by
  intro p l e R s m args below meth c D cA b ex H locs cells slots Qt ls hC hR hL hf hlo hce hsl hret
  obtain ⟨h1, h2⟩ := zz_wk_spec h
  exact k p l e R s m args below meth c D cA b ex H locs cells slots Qt ls hC hR ⟨hL.1, hL.2.1, h1.trans hL.2.2.1, fun i v hi => hL.2.2.2 i v (h2 i v hi)⟩ hf hlo hce hsl hret
theorem zz_num {x : Nat} (hx : x < 1000) : (nI 48 ≤ nI x ∧ nI x ≤ nI 57) ↔ (48 ≤ x ∧ x ≤ 57) := by
  rw [nI_leI (by decide) (by omega), nI_leI (by omega) (by decide)]

set_option maxRecDepth 100000 in
set_option maxHeartbeats 4000000 in
theorem c_X7_changes {sc : Nat × (Nat → Int32)} {d : Nat} (I : Nat → Nat → Int32) (J : Nat → Nat → Int64) (x y : Nat) (hx : x < 1000) (hy : y < 1000) : EvM sc (d + 2) 0 0 mX7_changes [.int (nI x), .int (nI y)] (zz_SH, I, J) (zz_is (.int (nI (chg x y))) (zz_SH, I, J)) := by
  refine EvM.of (by decide) rfl (Nat.le_of_ble_eq_true rfl) ?_
  show Ev _ _ _ _ _ 0 [some (.int (nI x)), some (.int (nI y))] [] (zz_SH, I, J) _
  refine Ev.run [(.iload_n 0, 1), (.iload_n 1, 1)] (pc' := 2) (L' := [some (.int (nI x)), some (.int (nI y))]) (S' := [.int (nI y), .int (nI x)]) rfl (by decide +kernel) rfl ?_
  refine Ev.icmp_ne (off := 7) (tgt := 9) (by decide +kernel) (by decide) (fun h2 => ?_) (fun h2 => ?_)
  · have h2 : ¬ x = y := zz_bE_f (by omega) (by omega) h2
    refine Ev.run [(.iload_n 0, 1)] (pc' := 10) (L' := [some (.int (nI x)), some (.int (nI y))]) (S' := [.int (nI x)]) rfl (by decide +kernel) rfl ?_
    refine Ev.callS0 mX7_isNumber [.int (nI x)] [] _ rfl lk_RX7_92 (by decide +kernel) rfl (Nat.le_of_ble_eq_true rfl) (c_X7_isNumber I J (nI x)) ?_
    rintro _ _ ⟨rfl, ⟨rfl, h10⟩ | ⟨rfl, h10⟩⟩
    · show Ev _ _ _ _ _ 13 [some (.int (nI x)), some (.int (nI y))] [.int (nI 1)] (zz_SH, I, J) _
      rw [zz_num hx] at h10
      refine Ev.if_eq (off := 14) (tgt := 27) (by decide +kernel) (by decide) (fun h13 => absurd h13 (by decide)) (fun h13 => ?_)
      refine Ev.run [(.iload_n 1, 1)] (pc' := 17) (L' := [some (.int (nI x)), some (.int (nI y))]) (S' := [.int (nI y)]) rfl (by decide +kernel) rfl ?_
      refine Ev.callS0 mX7_isNumber [.int (nI y)] [] _ rfl lk_RX7_92 (by decide +kernel) rfl (Nat.le_of_ble_eq_true rfl) (c_X7_isNumber I J (nI y)) ?_
      rintro _ _ ⟨rfl, ⟨rfl, h17⟩ | ⟨rfl, h17⟩⟩
      · show Ev _ _ _ _ _ 20 [some (.int (nI x)), some (.int (nI y))] [.int (nI 1)] (zz_SH, I, J) _
        rw [zz_num hy] at h17
        refine Ev.if_eq (off := 7) (tgt := 27) (by decide +kernel) (by decide) (fun h20 => absurd h20 (by decide)) (fun h20 => ?_)
        refine Ev.run [(.iconst 1, 1)] (pc' := 24) (L' := [some (.int (nI x)), some (.int (nI y))]) (S' := [.int (nI 1)]) rfl (by decide +kernel) rfl ?_
        refine Ev.goto (off := 4) (tgt := 28) (by decide +kernel) (by decide) ?_
        exact Ev.iret rfl (by decide +kernel) (⟨by rw [chg, if_neg h2, if_pos ⟨h10.1, h10.2, h17⟩], rfl⟩)
      · show Ev _ _ _ _ _ 20 [some (.int (nI x)), some (.int (nI y))] [.int (nI 0)] (zz_SH, I, J) _
        rw [zz_num hy] at h17
        refine Ev.if_eq (off := 7) (tgt := 27) (by decide +kernel) (by decide) (fun h20 => ?_) (fun h20 => absurd h20 (by decide))
        refine Ev.run [(.iconst 4, 1)] (pc' := 28) (L' := [some (.int (nI x)), some (.int (nI y))]) (S' := [.int (nI 4)]) rfl (by decide +kernel) rfl ?_
        exact Ev.iret rfl (by decide +kernel) (⟨by rw [chg, if_neg h2, if_neg (fun q => h17 q.2.2)], rfl⟩)
    · show Ev _ _ _ _ _ 13 [some (.int (nI x)), some (.int (nI y))] [.int (nI 0)] (zz_SH, I, J) _
      rw [zz_num hx] at h10
      refine Ev.if_eq (off := 14) (tgt := 27) (by decide +kernel) (by decide) (fun h13 => ?_) (fun h13 => absurd h13 (by decide))
      refine Ev.run [(.iconst 4, 1)] (pc' := 28) (L' := [some (.int (nI x)), some (.int (nI y))]) (S' := [.int (nI 4)]) rfl (by decide +kernel) rfl ?_
      exact Ev.iret rfl (by decide +kernel) (⟨by rw [chg, if_neg h2, if_neg (fun q => h10 ⟨q.1, q.2.1⟩)], rfl⟩)
  · have h2 : x = y := zz_bE_t (by omega) (by omega) h2
    refine Ev.run [(.iconst 0, 1)] (pc' := 6) (L' := [some (.int (nI x)), some (.int (nI y))]) (S' := [.int (nI 0)]) rfl (by decide +kernel) rfl ?_
    refine Ev.goto (off := 22) (tgt := 28) (by decide +kernel) (by decide) ?_
    exact Ev.iret rfl (by decide +kernel) (⟨by rw [chg, if_pos h2], rfl⟩)

set_option maxRecDepth 100000 in
set_option maxHeartbeats 4000000 in
theorem l_X7_far3 {sc : Nat × (Nat → Int32)} {d : Nat} (I : Nat → Nat → Int32) (J : Nat → Nat → Int64) (q1 q2 n1 n2 a n o m : Nat) (f g : Nat → Nat) (hq1 : zz_SH[q1]? = some (.inr (0, n1, []))) (hq2 : zz_SH[q2]? = some (.inr (0, n2, []))) (hn1 : n1 < 1000) (hn2 : n2 < 1000) (han : a + n ≤ n1) (hom : o + m ≤ n2) (hn : n ≤ 12) (hm : m ≤ 12) (hf : ∀ i, i < n → I q1 (a + i) = nI (f i)) (hg : ∀ j, j < m → I q2 (o + j) = nI (g j)) (hfr : ∀ i, i < n → f i < 1000) (hgr : ∀ j, j < m → g j < 1000) (e1 : q1 ≠ 372) (e2 : q2 ≠ 372) (i : Nat) (hi : i < n) (hout : ∀ h : Nat → Int32, (∀ t, t ≤ m → h t = nI (DD f g (i + 1) t)) → Ev sc (d + 3) 0 0 mX7_farOf 172 [some (.ref 359), some (.ref q1), some (.int (nI a)), some (.int (nI n)), some (.ref q2), some (.int (nI o)), some (.int (nI m)), some (.int (nI (i + 1))), none, none, none, none] [] (zz_SH, zz_cs I 372 h, J) (fun r σ => r = some (.int (nI (DD f g n m))) ∧ ∃ h, σ = (zz_SH, zz_cs I 372 h, J))) : ∀ (μ : Nat) (j : Nat) (h : Nat → Int32), m - j < μ → (j ≤ m) → (∀ t, t ≤ j → h t = nI (DD f g (i + 1) t)) → (∀ t, j < t → t ≤ m → h t = nI (DD f g i t)) →  Ev sc (d + 3) 0 0 mX7_farOf 57 [some (.ref 359), some (.ref q1), some (.int (nI a)), some (.int (nI n)), some (.ref q2), some (.int (nI o)), some (.int (nI m)), some (.int (nI (i + 1))), some (.int (nI (DD f g i j))), some (.int (nI (j + 1))), none, none] [] (zz_SH, zz_cs I 372 h, J) (fun r σ => r = some (.int (nI (DD f g n m))) ∧ ∃ h, σ = (zz_SH, zz_cs I 372 h, J)) := by
  intro μ
  induction μ with
  | zero => intro j h hμ; exact absurd hμ (Nat.not_lt_zero _)
  | succ μ ih =>
    intro j h hμ hj h1 h2
    have b1 := DD_le f g i j
    have b2 := DD_le f g i (j + 1)
    have b3 := DD_le f g (i + 1) j
    have b4 := chg_le (f i) (g j)
    refine Ev.run [(.iload 9, 2), (.iload 6, 2)] (pc' := 61) (L' := [some (.ref 359), some (.ref q1), some (.int (nI a)), some (.int (nI n)), some (.ref q2), some (.int (nI o)), some (.int (nI m)), some (.int (nI (i + 1))), some (.int (nI (DD f g i j))), some (.int (nI (j + 1))), none, none]) (S' := [.int (nI m), .int (nI (j + 1))]) rfl (by decide +kernel) rfl ?_
    refine Ev.icmp_gt (off := 111) (tgt := 172) (by decide +kernel) (by decide) (fun h61 => ?_) (fun h61 => ?_)
    · have h61 : (j + 1) > m := zz_bL'_t (by omega) (by omega) h61
      refine Ev.weakL (L' := [some (.ref 359), some (.ref q1), some (.int (nI a)), some (.int (nI n)), some (.ref q2), some (.int (nI o)), some (.int (nI m)), some (.int (nI (i + 1))), none, none, none, none]) ⟨rfl, rfl, rfl, rfl, rfl, rfl, rfl, rfl, trivial⟩ ?_
      exact hout h (fun t ht => h1 t (by omega))
    · have h61 : (j + 1) ≤ m := zz_bL'_f (by omega) (by omega) h61
      refine Ev.run [(.aload_n 0, 1), (.getfield 46, 3), (.iload 9, 2)] (pc' := 70) (L' := [some (.ref 359), some (.ref q1), some (.int (nI a)), some (.int (nI n)), some (.ref q2), some (.int (nI o)), some (.int (nI m)), some (.int (nI (i + 1))), some (.int (nI (DD f g i j))), some (.int (nI (j + 1))), none, none]) (S' := [.int (nI (j + 1)), .ref 372]) rfl (by decide +kernel) rfl ?_
      refine Ev.iald (j + 1) (by decide +kernel) (rfl) (rfl) (by omega) (by first | decide | omega) ?_
      dsimp only
      rw [show (zz_cs I 372 h) 372 (j + 1) = nI (DD f g i (j + 1)) from by rw [zz_cs_eq]; exact h2 (j + 1) (by omega) (by omega)]
      refine Ev.run [(.istore 10, 2), (.iload 8, 2), (.aload_n 1, 1), (.iload_n 2, 1), (.iload 7, 2), (.iadd, 1)] (pc' := 80) (L' := [some (.ref 359), some (.ref q1), some (.int (nI a)), some (.int (nI n)), some (.ref q2), some (.int (nI o)), some (.int (nI m)), some (.int (nI (i + 1))), some (.int (nI (DD f g i j))), some (.int (nI (j + 1))), some (.int (nI (DD f g i (j + 1)))), none]) (S' := [.int (nI a + nI (i + 1)), .ref q1, .int (nI (DD f g i j))]) rfl (by decide +kernel) rfl ?_
      rw [nI_add a (i + 1)]
      refine Ev.run [(.iconst 1, 1), (.isub, 1)] (pc' := 82) (L' := [some (.ref 359), some (.ref q1), some (.int (nI a)), some (.int (nI n)), some (.ref q2), some (.int (nI o)), some (.int (nI m)), some (.int (nI (i + 1))), some (.int (nI (DD f g i j))), some (.int (nI (j + 1))), some (.int (nI (DD f g i (j + 1)))), none]) (S' := [.int (nI (a + (i + 1)) - nI 1), .ref q1, .int (nI (DD f g i j))]) rfl (by decide +kernel) rfl ?_
      rw [show nI (a + (i + 1)) - nI 1 = nI (a + i) from zz_sub (by omega)]
      refine Ev.iald (a + i) (by decide +kernel) (hq1) (rfl) (by omega) (by first | decide | omega) ?_
      dsimp only
      rw [show (zz_cs I 372 h) q1 (a + i) = nI (f i) from by rw [zz_cs_ne e1]; exact hf i (by omega)]
      refine Ev.run [(.aload 4, 2), (.iload 5, 2), (.iload 9, 2), (.iadd, 1)] (pc' := 90) (L' := [some (.ref 359), some (.ref q1), some (.int (nI a)), some (.int (nI n)), some (.ref q2), some (.int (nI o)), some (.int (nI m)), some (.int (nI (i + 1))), some (.int (nI (DD f g i j))), some (.int (nI (j + 1))), some (.int (nI (DD f g i (j + 1)))), none]) (S' := [.int (nI o + nI (j + 1)), .ref q2, .int (nI (f i)), .int (nI (DD f g i j))]) rfl (by decide +kernel) rfl ?_
      rw [nI_add o (j + 1)]
      refine Ev.run [(.iconst 1, 1), (.isub, 1)] (pc' := 92) (L' := [some (.ref 359), some (.ref q1), some (.int (nI a)), some (.int (nI n)), some (.ref q2), some (.int (nI o)), some (.int (nI m)), some (.int (nI (i + 1))), some (.int (nI (DD f g i j))), some (.int (nI (j + 1))), some (.int (nI (DD f g i (j + 1)))), none]) (S' := [.int (nI (o + (j + 1)) - nI 1), .ref q2, .int (nI (f i)), .int (nI (DD f g i j))]) rfl (by decide +kernel) rfl ?_
      rw [show nI (o + (j + 1)) - nI 1 = nI (o + j) from zz_sub (by omega)]
      refine Ev.iald (o + j) (by decide +kernel) (hq2) (rfl) (by omega) (by first | decide | omega) ?_
      dsimp only
      rw [show (zz_cs I 372 h) q2 (o + j) = nI (g j) from by rw [zz_cs_ne e2]; exact hg j (by omega)]
      refine Ev.callS0 mX7_changes [.int (nI (f i)), .int (nI (g j))] [.int (nI (DD f g i j))] _ rfl lk_RX7_103 (by decide +kernel) rfl (Nat.le_of_ble_eq_true rfl) (c_X7_changes (zz_cs I 372 h) J (f i) (g j) (hfr i (by omega)) (hgr j (by omega))) ?_
      rintro _ _ ⟨rfl, rfl⟩
      show Ev _ _ _ _ _ 96 [some (.ref 359), some (.ref q1), some (.int (nI a)), some (.int (nI n)), some (.ref q2), some (.int (nI o)), some (.int (nI m)), some (.int (nI (i + 1))), some (.int (nI (DD f g i j))), some (.int (nI (j + 1))), some (.int (nI (DD f g i (j + 1)))), none] [.int (nI (chg (f i) (g j))), .int (nI (DD f g i j))] (zz_SH, zz_cs I 372 h, J) _
      refine Ev.run [(.iadd, 1)] (pc' := 97) (L' := [some (.ref 359), some (.ref q1), some (.int (nI a)), some (.int (nI n)), some (.ref q2), some (.int (nI o)), some (.int (nI m)), some (.int (nI (i + 1))), some (.int (nI (DD f g i j))), some (.int (nI (j + 1))), some (.int (nI (DD f g i (j + 1)))), none]) (S' := [.int (nI (DD f g i j) + nI (chg (f i) (g j)))]) rfl (by decide +kernel) rfl ?_
      rw [nI_add (DD f g i j) (chg (f i) (g j))]
      refine Ev.run [(.istore 11, 2), (.iload 10, 2), (.iconst 4, 1), (.iadd, 1)] (pc' := 103) (L' := [some (.ref 359), some (.ref q1), some (.int (nI a)), some (.int (nI n)), some (.ref q2), some (.int (nI o)), some (.int (nI m)), some (.int (nI (i + 1))), some (.int (nI (DD f g i j))), some (.int (nI (j + 1))), some (.int (nI (DD f g i (j + 1)))), some (.int (nI ((DD f g i j) + (chg (f i) (g j)))))]) (S' := [.int (nI (DD f g i (j + 1)) + nI 4)]) rfl (by decide +kernel) rfl ?_
      rw [nI_add (DD f g i (j + 1)) 4]
      refine Ev.run [(.iload 11, 2)] (pc' := 105) (L' := [some (.ref 359), some (.ref q1), some (.int (nI a)), some (.int (nI n)), some (.ref q2), some (.int (nI o)), some (.int (nI m)), some (.int (nI (i + 1))), some (.int (nI (DD f g i j))), some (.int (nI (j + 1))), some (.int (nI (DD f g i (j + 1)))), some (.int (nI ((DD f g i j) + (chg (f i) (g j)))))]) (S' := [.int (nI ((DD f g i j) + (chg (f i) (g j)))), .int (nI ((DD f g i (j + 1)) + 4))]) rfl (by decide +kernel) rfl ?_
      refine Ev.icmp_ge (off := 10) (tgt := 115) (by decide +kernel) (by decide) (fun h105 => ?_) (fun h105 => ?_)
      · have h105 : ((DD f g i (j + 1)) + 4) ≥ ((DD f g i j) + (chg (f i) (g j))) := zz_bG_t (by omega) (by omega) h105
        refine Ev.run [(.iload 11, 2), (.istore 11, 2), (.aload_n 0, 1), (.getfield 46, 3), (.iload 9, 2), (.iconst 1, 1), (.isub, 1)] (pc' := 127) (L' := [some (.ref 359), some (.ref q1), some (.int (nI a)), some (.int (nI n)), some (.ref q2), some (.int (nI o)), some (.int (nI m)), some (.int (nI (i + 1))), some (.int (nI (DD f g i j))), some (.int (nI (j + 1))), some (.int (nI (DD f g i (j + 1)))), some (.int (nI ((DD f g i j) + (chg (f i) (g j)))))]) (S' := [.int (nI (j + 1) - nI 1), .ref 372]) rfl (by decide +kernel) rfl ?_
        rw [show nI (j + 1) - nI 1 = nI j from zz_sub (by omega)]
        refine Ev.iald j (by decide +kernel) (rfl) (rfl) (by omega) (by first | decide | omega) ?_
        dsimp only
        rw [show (zz_cs I 372 h) 372 j = nI (DD f g (i + 1) j) from by rw [zz_cs_eq]; exact h1 j (by omega)]
        refine Ev.run [(.iconst 4, 1), (.iadd, 1)] (pc' := 130) (L' := [some (.ref 359), some (.ref q1), some (.int (nI a)), some (.int (nI n)), some (.ref q2), some (.int (nI o)), some (.int (nI m)), some (.int (nI (i + 1))), some (.int (nI (DD f g i j))), some (.int (nI (j + 1))), some (.int (nI (DD f g i (j + 1)))), some (.int (nI ((DD f g i j) + (chg (f i) (g j)))))]) (S' := [.int (nI (DD f g (i + 1) j) + nI 4)]) rfl (by decide +kernel) rfl ?_
        rw [nI_add (DD f g (i + 1) j) 4]
        refine Ev.run [(.iload 11, 2)] (pc' := 132) (L' := [some (.ref 359), some (.ref q1), some (.int (nI a)), some (.int (nI n)), some (.ref q2), some (.int (nI o)), some (.int (nI m)), some (.int (nI (i + 1))), some (.int (nI (DD f g i j))), some (.int (nI (j + 1))), some (.int (nI (DD f g i (j + 1)))), some (.int (nI ((DD f g i j) + (chg (f i) (g j)))))]) (S' := [.int (nI ((DD f g i j) + (chg (f i) (g j)))), .int (nI ((DD f g (i + 1) j) + 4))]) rfl (by decide +kernel) rfl ?_
        refine Ev.icmp_ge (off := 17) (tgt := 149) (by decide +kernel) (by decide) (fun h132 => ?_) (fun h132 => ?_)
        · have h132 : ((DD f g (i + 1) j) + 4) ≥ ((DD f g i j) + (chg (f i) (g j))) := zz_bG_t (by omega) (by omega) h132
          refine Ev.run [(.iload 11, 2), (.istore 11, 2)] (pc' := 153) (L' := [some (.ref 359), some (.ref q1), some (.int (nI a)), some (.int (nI n)), some (.ref q2), some (.int (nI o)), some (.int (nI m)), some (.int (nI (i + 1))), some (.int (nI (DD f g i j))), some (.int (nI (j + 1))), some (.int (nI (DD f g i (j + 1)))), some (.int (nI ((DD f g i j) + (chg (f i) (g j)))))]) (S' := []) rfl (by decide +kernel) rfl ?_
          have hv : (DD f g i j) + (chg (f i) (g j)) = DD f g (i + 1) (j + 1) := by rw [DD]; omega
          rw [hv]
          clear hv
          refine Ev.run [(.aload_n 0, 1), (.getfield 46, 3), (.iload 9, 2), (.iload 11, 2)] (pc' := 161) (L' := [some (.ref 359), some (.ref q1), some (.int (nI a)), some (.int (nI n)), some (.ref q2), some (.int (nI o)), some (.int (nI m)), some (.int (nI (i + 1))), some (.int (nI (DD f g i j))), some (.int (nI (j + 1))), some (.int (nI (DD f g i (j + 1)))), some (.int (nI (DD f g (i + 1) (j + 1))))]) (S' := [.int (nI (DD f g (i + 1) (j + 1))), .int (nI (j + 1)), .ref 372]) rfl (by decide +kernel) rfl ?_
          refine Ev.iast (j + 1) (by decide +kernel) (rfl) (rfl) (by omega) (by first | decide | omega) ?_
          dsimp only
          refine Ev.run [(.iload 10, 2), (.istore 8, 2), (.iinc 9 1, 3)] (pc' := 169) (L' := [some (.ref 359), some (.ref q1), some (.int (nI a)), some (.int (nI n)), some (.ref q2), some (.int (nI o)), some (.int (nI m)), some (.int (nI (i + 1))), some (.int (nI (DD f g i (j + 1)))), some (.int (nI (j + 1) + 1)), some (.int (nI (DD f g i (j + 1)))), some (.int (nI (DD f g (i + 1) (j + 1))))]) (S' := []) rfl (by decide +kernel) rfl ?_
          rw [nI_1 (j + 1)]
          refine Ev.goto (off := (-112)) (tgt := 57) (by decide +kernel) (by decide) ?_
          refine Ev.weakL (L' := [some (.ref 359), some (.ref q1), some (.int (nI a)), some (.int (nI n)), some (.ref q2), some (.int (nI o)), some (.int (nI m)), some (.int (nI (i + 1))), some (.int (nI (DD f g i (j + 1)))), some (.int (nI (j + 1 + 1))), none, none]) ⟨rfl, rfl, rfl, rfl, rfl, rfl, rfl, rfl, rfl, rfl, trivial⟩ ?_
          rw [zz_cs_up]
          refine ih (j + 1) (upd h (j + 1) (nI (DD f g (i + 1) (j + 1)))) (by omega) (by omega) (fun t ht => ?_) (fun t ht1 ht2 => ?_)
          · by_cases e : t = j + 1
            · subst e; rw [zz_ups]
            · rw [zz_upn e]; exact h1 t (by omega)
          · rw [zz_upn (by omega)]; exact h2 t (by omega) ht2
        · have h132 : ((DD f g (i + 1) j) + 4) < ((DD f g i j) + (chg (f i) (g j))) := zz_bG_f (by omega) (by omega) h132
          refine Ev.run [(.aload_n 0, 1), (.getfield 46, 3), (.iload 9, 2), (.iconst 1, 1), (.isub, 1)] (pc' := 143) (L' := [some (.ref 359), some (.ref q1), some (.int (nI a)), some (.int (nI n)), some (.ref q2), some (.int (nI o)), some (.int (nI m)), some (.int (nI (i + 1))), some (.int (nI (DD f g i j))), some (.int (nI (j + 1))), some (.int (nI (DD f g i (j + 1)))), some (.int (nI ((DD f g i j) + (chg (f i) (g j)))))]) (S' := [.int (nI (j + 1) - nI 1), .ref 372]) rfl (by decide +kernel) rfl ?_
          rw [show nI (j + 1) - nI 1 = nI j from zz_sub (by omega)]
          refine Ev.iald j (by decide +kernel) (rfl) (rfl) (by omega) (by first | decide | omega) ?_
          dsimp only
          rw [show (zz_cs I 372 h) 372 j = nI (DD f g (i + 1) j) from by rw [zz_cs_eq]; exact h1 j (by omega)]
          refine Ev.run [(.iconst 4, 1), (.iadd, 1)] (pc' := 146) (L' := [some (.ref 359), some (.ref q1), some (.int (nI a)), some (.int (nI n)), some (.ref q2), some (.int (nI o)), some (.int (nI m)), some (.int (nI (i + 1))), some (.int (nI (DD f g i j))), some (.int (nI (j + 1))), some (.int (nI (DD f g i (j + 1)))), some (.int (nI ((DD f g i j) + (chg (f i) (g j)))))]) (S' := [.int (nI (DD f g (i + 1) j) + nI 4)]) rfl (by decide +kernel) rfl ?_
          rw [nI_add (DD f g (i + 1) j) 4]
          refine Ev.goto (off := 5) (tgt := 151) (by decide +kernel) (by decide) ?_
          refine Ev.run [(.istore 11, 2)] (pc' := 153) (L' := [some (.ref 359), some (.ref q1), some (.int (nI a)), some (.int (nI n)), some (.ref q2), some (.int (nI o)), some (.int (nI m)), some (.int (nI (i + 1))), some (.int (nI (DD f g i j))), some (.int (nI (j + 1))), some (.int (nI (DD f g i (j + 1)))), some (.int (nI ((DD f g (i + 1) j) + 4)))]) (S' := []) rfl (by decide +kernel) rfl ?_
          have hv : (DD f g (i + 1) j) + 4 = DD f g (i + 1) (j + 1) := by rw [DD]; omega
          rw [hv]
          clear hv
          refine Ev.run [(.aload_n 0, 1), (.getfield 46, 3), (.iload 9, 2), (.iload 11, 2)] (pc' := 161) (L' := [some (.ref 359), some (.ref q1), some (.int (nI a)), some (.int (nI n)), some (.ref q2), some (.int (nI o)), some (.int (nI m)), some (.int (nI (i + 1))), some (.int (nI (DD f g i j))), some (.int (nI (j + 1))), some (.int (nI (DD f g i (j + 1)))), some (.int (nI (DD f g (i + 1) (j + 1))))]) (S' := [.int (nI (DD f g (i + 1) (j + 1))), .int (nI (j + 1)), .ref 372]) rfl (by decide +kernel) rfl ?_
          refine Ev.iast (j + 1) (by decide +kernel) (rfl) (rfl) (by omega) (by first | decide | omega) ?_
          dsimp only
          refine Ev.run [(.iload 10, 2), (.istore 8, 2), (.iinc 9 1, 3)] (pc' := 169) (L' := [some (.ref 359), some (.ref q1), some (.int (nI a)), some (.int (nI n)), some (.ref q2), some (.int (nI o)), some (.int (nI m)), some (.int (nI (i + 1))), some (.int (nI (DD f g i (j + 1)))), some (.int (nI (j + 1) + 1)), some (.int (nI (DD f g i (j + 1)))), some (.int (nI (DD f g (i + 1) (j + 1))))]) (S' := []) rfl (by decide +kernel) rfl ?_
          rw [nI_1 (j + 1)]
          refine Ev.goto (off := (-112)) (tgt := 57) (by decide +kernel) (by decide) ?_
          refine Ev.weakL (L' := [some (.ref 359), some (.ref q1), some (.int (nI a)), some (.int (nI n)), some (.ref q2), some (.int (nI o)), some (.int (nI m)), some (.int (nI (i + 1))), some (.int (nI (DD f g i (j + 1)))), some (.int (nI (j + 1 + 1))), none, none]) ⟨rfl, rfl, rfl, rfl, rfl, rfl, rfl, rfl, rfl, rfl, trivial⟩ ?_
          rw [zz_cs_up]
          refine ih (j + 1) (upd h (j + 1) (nI (DD f g (i + 1) (j + 1)))) (by omega) (by omega) (fun t ht => ?_) (fun t ht1 ht2 => ?_)
          · by_cases e : t = j + 1
            · subst e; rw [zz_ups]
            · rw [zz_upn e]; exact h1 t (by omega)
          · rw [zz_upn (by omega)]; exact h2 t (by omega) ht2
      · have h105 : ((DD f g i (j + 1)) + 4) < ((DD f g i j) + (chg (f i) (g j))) := zz_bG_f (by omega) (by omega) h105
        refine Ev.run [(.iload 10, 2), (.iconst 4, 1), (.iadd, 1)] (pc' := 112) (L' := [some (.ref 359), some (.ref q1), some (.int (nI a)), some (.int (nI n)), some (.ref q2), some (.int (nI o)), some (.int (nI m)), some (.int (nI (i + 1))), some (.int (nI (DD f g i j))), some (.int (nI (j + 1))), some (.int (nI (DD f g i (j + 1)))), some (.int (nI ((DD f g i j) + (chg (f i) (g j)))))]) (S' := [.int (nI (DD f g i (j + 1)) + nI 4)]) rfl (by decide +kernel) rfl ?_
        rw [nI_add (DD f g i (j + 1)) 4]
        refine Ev.goto (off := 5) (tgt := 117) (by decide +kernel) (by decide) ?_
        refine Ev.run [(.istore 11, 2), (.aload_n 0, 1), (.getfield 46, 3), (.iload 9, 2), (.iconst 1, 1), (.isub, 1)] (pc' := 127) (L' := [some (.ref 359), some (.ref q1), some (.int (nI a)), some (.int (nI n)), some (.ref q2), some (.int (nI o)), some (.int (nI m)), some (.int (nI (i + 1))), some (.int (nI (DD f g i j))), some (.int (nI (j + 1))), some (.int (nI (DD f g i (j + 1)))), some (.int (nI ((DD f g i (j + 1)) + 4)))]) (S' := [.int (nI (j + 1) - nI 1), .ref 372]) rfl (by decide +kernel) rfl ?_
        rw [show nI (j + 1) - nI 1 = nI j from zz_sub (by omega)]
        refine Ev.iald j (by decide +kernel) (rfl) (rfl) (by omega) (by first | decide | omega) ?_
        dsimp only
        rw [show (zz_cs I 372 h) 372 j = nI (DD f g (i + 1) j) from by rw [zz_cs_eq]; exact h1 j (by omega)]
        refine Ev.run [(.iconst 4, 1), (.iadd, 1)] (pc' := 130) (L' := [some (.ref 359), some (.ref q1), some (.int (nI a)), some (.int (nI n)), some (.ref q2), some (.int (nI o)), some (.int (nI m)), some (.int (nI (i + 1))), some (.int (nI (DD f g i j))), some (.int (nI (j + 1))), some (.int (nI (DD f g i (j + 1)))), some (.int (nI ((DD f g i (j + 1)) + 4)))]) (S' := [.int (nI (DD f g (i + 1) j) + nI 4)]) rfl (by decide +kernel) rfl ?_
        rw [nI_add (DD f g (i + 1) j) 4]
        refine Ev.run [(.iload 11, 2)] (pc' := 132) (L' := [some (.ref 359), some (.ref q1), some (.int (nI a)), some (.int (nI n)), some (.ref q2), some (.int (nI o)), some (.int (nI m)), some (.int (nI (i + 1))), some (.int (nI (DD f g i j))), some (.int (nI (j + 1))), some (.int (nI (DD f g i (j + 1)))), some (.int (nI ((DD f g i (j + 1)) + 4)))]) (S' := [.int (nI ((DD f g i (j + 1)) + 4)), .int (nI ((DD f g (i + 1) j) + 4))]) rfl (by decide +kernel) rfl ?_
        refine Ev.icmp_ge (off := 17) (tgt := 149) (by decide +kernel) (by decide) (fun h132 => ?_) (fun h132 => ?_)
        · have h132 : ((DD f g (i + 1) j) + 4) ≥ ((DD f g i (j + 1)) + 4) := zz_bG_t (by omega) (by omega) h132
          refine Ev.run [(.iload 11, 2), (.istore 11, 2)] (pc' := 153) (L' := [some (.ref 359), some (.ref q1), some (.int (nI a)), some (.int (nI n)), some (.ref q2), some (.int (nI o)), some (.int (nI m)), some (.int (nI (i + 1))), some (.int (nI (DD f g i j))), some (.int (nI (j + 1))), some (.int (nI (DD f g i (j + 1)))), some (.int (nI ((DD f g i (j + 1)) + 4)))]) (S' := []) rfl (by decide +kernel) rfl ?_
          have hv : (DD f g i (j + 1)) + 4 = DD f g (i + 1) (j + 1) := by rw [DD]; omega
          rw [hv]
          clear hv
          refine Ev.run [(.aload_n 0, 1), (.getfield 46, 3), (.iload 9, 2), (.iload 11, 2)] (pc' := 161) (L' := [some (.ref 359), some (.ref q1), some (.int (nI a)), some (.int (nI n)), some (.ref q2), some (.int (nI o)), some (.int (nI m)), some (.int (nI (i + 1))), some (.int (nI (DD f g i j))), some (.int (nI (j + 1))), some (.int (nI (DD f g i (j + 1)))), some (.int (nI (DD f g (i + 1) (j + 1))))]) (S' := [.int (nI (DD f g (i + 1) (j + 1))), .int (nI (j + 1)), .ref 372]) rfl (by decide +kernel) rfl ?_
          refine Ev.iast (j + 1) (by decide +kernel) (rfl) (rfl) (by omega) (by first | decide | omega) ?_
          dsimp only
          refine Ev.run [(.iload 10, 2), (.istore 8, 2), (.iinc 9 1, 3)] (pc' := 169) (L' := [some (.ref 359), some (.ref q1), some (.int (nI a)), some (.int (nI n)), some (.ref q2), some (.int (nI o)), some (.int (nI m)), some (.int (nI (i + 1))), some (.int (nI (DD f g i (j + 1)))), some (.int (nI (j + 1) + 1)), some (.int (nI (DD f g i (j + 1)))), some (.int (nI (DD f g (i + 1) (j + 1))))]) (S' := []) rfl (by decide +kernel) rfl ?_
          rw [nI_1 (j + 1)]
          refine Ev.goto (off := (-112)) (tgt := 57) (by decide +kernel) (by decide) ?_
          refine Ev.weakL (L' := [some (.ref 359), some (.ref q1), some (.int (nI a)), some (.int (nI n)), some (.ref q2), some (.int (nI o)), some (.int (nI m)), some (.int (nI (i + 1))), some (.int (nI (DD f g i (j + 1)))), some (.int (nI (j + 1 + 1))), none, none]) ⟨rfl, rfl, rfl, rfl, rfl, rfl, rfl, rfl, rfl, rfl, trivial⟩ ?_
          rw [zz_cs_up]
          refine ih (j + 1) (upd h (j + 1) (nI (DD f g (i + 1) (j + 1)))) (by omega) (by omega) (fun t ht => ?_) (fun t ht1 ht2 => ?_)
          · by_cases e : t = j + 1
            · subst e; rw [zz_ups]
            · rw [zz_upn e]; exact h1 t (by omega)
          · rw [zz_upn (by omega)]; exact h2 t (by omega) ht2
        · have h132 : ((DD f g (i + 1) j) + 4) < ((DD f g i (j + 1)) + 4) := zz_bG_f (by omega) (by omega) h132
          refine Ev.run [(.aload_n 0, 1), (.getfield 46, 3), (.iload 9, 2), (.iconst 1, 1), (.isub, 1)] (pc' := 143) (L' := [some (.ref 359), some (.ref q1), some (.int (nI a)), some (.int (nI n)), some (.ref q2), some (.int (nI o)), some (.int (nI m)), some (.int (nI (i + 1))), some (.int (nI (DD f g i j))), some (.int (nI (j + 1))), some (.int (nI (DD f g i (j + 1)))), some (.int (nI ((DD f g i (j + 1)) + 4)))]) (S' := [.int (nI (j + 1) - nI 1), .ref 372]) rfl (by decide +kernel) rfl ?_
          rw [show nI (j + 1) - nI 1 = nI j from zz_sub (by omega)]
          refine Ev.iald j (by decide +kernel) (rfl) (rfl) (by omega) (by first | decide | omega) ?_
          dsimp only
          rw [show (zz_cs I 372 h) 372 j = nI (DD f g (i + 1) j) from by rw [zz_cs_eq]; exact h1 j (by omega)]
          refine Ev.run [(.iconst 4, 1), (.iadd, 1)] (pc' := 146) (L' := [some (.ref 359), some (.ref q1), some (.int (nI a)), some (.int (nI n)), some (.ref q2), some (.int (nI o)), some (.int (nI m)), some (.int (nI (i + 1))), some (.int (nI (DD f g i j))), some (.int (nI (j + 1))), some (.int (nI (DD f g i (j + 1)))), some (.int (nI ((DD f g i (j + 1)) + 4)))]) (S' := [.int (nI (DD f g (i + 1) j) + nI 4)]) rfl (by decide +kernel) rfl ?_
          rw [nI_add (DD f g (i + 1) j) 4]
          refine Ev.goto (off := 5) (tgt := 151) (by decide +kernel) (by decide) ?_
          refine Ev.run [(.istore 11, 2)] (pc' := 153) (L' := [some (.ref 359), some (.ref q1), some (.int (nI a)), some (.int (nI n)), some (.ref q2), some (.int (nI o)), some (.int (nI m)), some (.int (nI (i + 1))), some (.int (nI (DD f g i j))), some (.int (nI (j + 1))), some (.int (nI (DD f g i (j + 1)))), some (.int (nI ((DD f g (i + 1) j) + 4)))]) (S' := []) rfl (by decide +kernel) rfl ?_
          have hv : (DD f g (i + 1) j) + 4 = DD f g (i + 1) (j + 1) := by rw [DD]; omega
          rw [hv]
          clear hv
          refine Ev.run [(.aload_n 0, 1), (.getfield 46, 3), (.iload 9, 2), (.iload 11, 2)] (pc' := 161) (L' := [some (.ref 359), some (.ref q1), some (.int (nI a)), some (.int (nI n)), some (.ref q2), some (.int (nI o)), some (.int (nI m)), some (.int (nI (i + 1))), some (.int (nI (DD f g i j))), some (.int (nI (j + 1))), some (.int (nI (DD f g i (j + 1)))), some (.int (nI (DD f g (i + 1) (j + 1))))]) (S' := [.int (nI (DD f g (i + 1) (j + 1))), .int (nI (j + 1)), .ref 372]) rfl (by decide +kernel) rfl ?_
          refine Ev.iast (j + 1) (by decide +kernel) (rfl) (rfl) (by omega) (by first | decide | omega) ?_
          dsimp only
          refine Ev.run [(.iload 10, 2), (.istore 8, 2), (.iinc 9 1, 3)] (pc' := 169) (L' := [some (.ref 359), some (.ref q1), some (.int (nI a)), some (.int (nI n)), some (.ref q2), some (.int (nI o)), some (.int (nI m)), some (.int (nI (i + 1))), some (.int (nI (DD f g i (j + 1)))), some (.int (nI (j + 1) + 1)), some (.int (nI (DD f g i (j + 1)))), some (.int (nI (DD f g (i + 1) (j + 1))))]) (S' := []) rfl (by decide +kernel) rfl ?_
          rw [nI_1 (j + 1)]
          refine Ev.goto (off := (-112)) (tgt := 57) (by decide +kernel) (by decide) ?_
          refine Ev.weakL (L' := [some (.ref 359), some (.ref q1), some (.int (nI a)), some (.int (nI n)), some (.ref q2), some (.int (nI o)), some (.int (nI m)), some (.int (nI (i + 1))), some (.int (nI (DD f g i (j + 1)))), some (.int (nI (j + 1 + 1))), none, none]) ⟨rfl, rfl, rfl, rfl, rfl, rfl, rfl, rfl, rfl, rfl, trivial⟩ ?_
          rw [zz_cs_up]
          refine ih (j + 1) (upd h (j + 1) (nI (DD f g (i + 1) (j + 1)))) (by omega) (by omega) (fun t ht => ?_) (fun t ht1 ht2 => ?_)
          · by_cases e : t = j + 1
            · subst e; rw [zz_ups]
            · rw [zz_upn e]; exact h1 t (by omega)
          · rw [zz_upn (by omega)]; exact h2 t (by omega) ht2

set_option maxRecDepth 100000 in
set_option maxHeartbeats 4000000 in
theorem l_X7_far2 {sc : Nat × (Nat → Int32)} {d : Nat} (I : Nat → Nat → Int32) (J : Nat → Nat → Int64) (q1 q2 n1 n2 a n o m : Nat) (f g : Nat → Nat) (hq1 : zz_SH[q1]? = some (.inr (0, n1, []))) (hq2 : zz_SH[q2]? = some (.inr (0, n2, []))) (hn1 : n1 < 1000) (hn2 : n2 < 1000) (han : a + n ≤ n1) (hom : o + m ≤ n2) (hn : n ≤ 12) (hm : m ≤ 12) (hf : ∀ i, i < n → I q1 (a + i) = nI (f i)) (hg : ∀ j, j < m → I q2 (o + j) = nI (g j)) (hfr : ∀ i, i < n → f i < 1000) (hgr : ∀ j, j < m → g j < 1000) (e1 : q1 ≠ 372) (e2 : q2 ≠ 372) : ∀ (μ : Nat) (i : Nat) (h : Nat → Int32), n - i < μ → (i ≤ n) → (∀ t, t ≤ m → h t = nI (DD f g i t)) →  Ev sc (d + 3) 0 0 mX7_farOf 30 [some (.ref 359), some (.ref q1), some (.int (nI a)), some (.int (nI n)), some (.ref q2), some (.int (nI o)), some (.int (nI m)), some (.int (nI (i + 1))), none, none, none, none] [] (zz_SH, zz_cs I 372 h, J) (fun r σ => r = some (.int (nI (DD f g n m))) ∧ ∃ h, σ = (zz_SH, zz_cs I 372 h, J)) := by
  intro μ
  induction μ with
  | zero => intro i h hμ; exact absurd hμ (Nat.not_lt_zero _)
  | succ μ ih =>
    intro i h hμ hi h1
    refine Ev.run [(.iload 7, 2), (.iload_n 3, 1)] (pc' := 33) (L' := [some (.ref 359), some (.ref q1), some (.int (nI a)), some (.int (nI n)), some (.ref q2), some (.int (nI o)), some (.int (nI m)), some (.int (nI (i + 1))), none, none, none, none]) (S' := [.int (nI n), .int (nI (i + 1))]) rfl (by decide +kernel) rfl ?_
    refine Ev.icmp_gt (off := 145) (tgt := 178) (by decide +kernel) (by decide) (fun h33 => ?_) (fun h33 => ?_)
    · have h33 : (i + 1) > n := zz_bL'_t (by omega) (by omega) h33
      have hin : n = i := by omega
      refine Ev.run [(.aload_n 0, 1), (.getfield 46, 3), (.iload 6, 2)] (pc' := 184) (L' := [some (.ref 359), some (.ref q1), some (.int (nI a)), some (.int (nI n)), some (.ref q2), some (.int (nI o)), some (.int (nI m)), some (.int (nI (i + 1))), none, none, none, none]) (S' := [.int (nI m), .ref 372]) rfl (by decide +kernel) rfl ?_
      refine Ev.iald m (by decide +kernel) (rfl) (rfl) (by omega) (by first | decide | omega) ?_
      dsimp only
      rw [show (zz_cs I 372 h) 372 m = nI (DD f g i m) from by rw [zz_cs_eq]; exact h1 m (Nat.le_refl m)]
      exact Ev.iret rfl (by decide +kernel) (⟨by rw [hin], h, rfl⟩)
    · have h33 : (i + 1) ≤ n := zz_bL'_f (by omega) (by omega) h33
      refine Ev.run [(.aload_n 0, 1), (.getfield 46, 3), (.iconst 0, 1)] (pc' := 41) (L' := [some (.ref 359), some (.ref q1), some (.int (nI a)), some (.int (nI n)), some (.ref q2), some (.int (nI o)), some (.int (nI m)), some (.int (nI (i + 1))), none, none, none, none]) (S' := [.int (nI 0), .ref 372]) rfl (by decide +kernel) rfl ?_
      refine Ev.iald 0 (by decide +kernel) (rfl) (rfl) (by omega) (by first | decide | omega) ?_
      dsimp only
      rw [show (zz_cs I 372 h) 372 0 = nI (DD f g i 0) from by rw [zz_cs_eq]; exact h1 0 (by omega)]
      refine Ev.run [(.istore 8, 2), (.aload_n 0, 1), (.getfield 46, 3), (.iconst 0, 1), (.iconst 4, 1), (.iload 7, 2), (.imul, 1)] (pc' := 53) (L' := [some (.ref 359), some (.ref q1), some (.int (nI a)), some (.int (nI n)), some (.ref q2), some (.int (nI o)), some (.int (nI m)), some (.int (nI (i + 1))), some (.int (nI (DD f g i 0))), none, none, none]) (S' := [.int (nI 4 * nI (i + 1)), .int (nI 0), .ref 372]) rfl (by decide +kernel) rfl ?_
      rw [pk_mul 4 (i + 1)]
      refine Ev.iast 0 (by decide +kernel) (rfl) (rfl) (by omega) (by first | decide | omega) ?_
      dsimp only
      refine Ev.run [(.iconst 1, 1), (.istore 9, 2)] (pc' := 57) (L' := [some (.ref 359), some (.ref q1), some (.int (nI a)), some (.int (nI n)), some (.ref q2), some (.int (nI o)), some (.int (nI m)), some (.int (nI (i + 1))), some (.int (nI (DD f g i 0))), some (.int (nI 1)), none, none]) (S' := []) rfl (by decide +kernel) rfl ?_
      rw [zz_cs_up]
      refine l_X7_far3 I J q1 q2 n1 n2 a n o m f g hq1 hq2 hn1 hn2 han hom hn hm hf hg hfr hgr e1 e2 i (by omega) ?_ (m + 1) 0 _ (by omega) (by omega) (fun t ht => ?_) (fun t ht1 ht2 => ?_)
      rotate_left
      · rw [show t = 0 by omega, zz_ups, DD_z]
      · rw [zz_upn (by omega)]; exact h1 t ht2
      intro h hh
      show Ev _ _ _ _ _ 172 [some (.ref 359), some (.ref q1), some (.int (nI a)), some (.int (nI n)), some (.ref q2), some (.int (nI o)), some (.int (nI m)), some (.int (nI (i + 1))), none, none, none, none] [] (zz_SH, zz_cs I 372 h, J) _
      refine Ev.run [(.iinc 7 1, 3)] (pc' := 175) (L' := [some (.ref 359), some (.ref q1), some (.int (nI a)), some (.int (nI n)), some (.ref q2), some (.int (nI o)), some (.int (nI m)), some (.int (nI (i + 1) + 1)), none, none, none, none]) (S' := []) rfl (by decide +kernel) rfl ?_
      rw [nI_1 (i + 1)]
      refine Ev.goto (off := (-145)) (tgt := 30) (by decide +kernel) (by decide) ?_
      exact ih (i + 1) h (by omega) (by omega) hh

set_option maxRecDepth 100000 in
set_option maxHeartbeats 4000000 in
theorem l_X7_far1 {sc : Nat × (Nat → Int32)} {d : Nat} (I : Nat → Nat → Int32) (J : Nat → Nat → Int64) (q1 q2 n1 n2 a n o m : Nat) (f g : Nat → Nat) (hq1 : zz_SH[q1]? = some (.inr (0, n1, []))) (hq2 : zz_SH[q2]? = some (.inr (0, n2, []))) (hn1 : n1 < 1000) (hn2 : n2 < 1000) (han : a + n ≤ n1) (hom : o + m ≤ n2) (hn : n ≤ 12) (hm : m ≤ 12) (hf : ∀ i, i < n → I q1 (a + i) = nI (f i)) (hg : ∀ j, j < m → I q2 (o + j) = nI (g j)) (hfr : ∀ i, i < n → f i < 1000) (hgr : ∀ j, j < m → g j < 1000) (e1 : q1 ≠ 372) (e2 : q2 ≠ 372) : ∀ (μ : Nat) (j : Nat) (h : Nat → Int32), m + 1 - j < μ → (j ≤ m + 1) → (∀ t, t < j → h t = nI (4 * t)) →  Ev sc (d + 3) 0 0 mX7_farOf 3 [some (.ref 359), some (.ref q1), some (.int (nI a)), some (.int (nI n)), some (.ref q2), some (.int (nI o)), some (.int (nI m)), some (.int (nI j)), none, none, none, none] [] (zz_SH, zz_cs I 372 h, J) (fun r σ => r = some (.int (nI (DD f g n m))) ∧ ∃ h, σ = (zz_SH, zz_cs I 372 h, J)) := by
  intro μ
  induction μ with
  | zero => intro j h hμ; exact absurd hμ (Nat.not_lt_zero _)
  | succ μ ih =>
    intro j h hμ hj h1
    refine Ev.run [(.iload 7, 2), (.iload 6, 2)] (pc' := 7) (L' := [some (.ref 359), some (.ref q1), some (.int (nI a)), some (.int (nI n)), some (.ref q2), some (.int (nI o)), some (.int (nI m)), some (.int (nI j)), none, none, none, none]) (S' := [.int (nI m), .int (nI j)]) rfl (by decide +kernel) rfl ?_
    refine Ev.icmp_gt (off := 20) (tgt := 27) (by decide +kernel) (by decide) (fun h7 => ?_) (fun h7 => ?_)
    · have h7 : j > m := zz_bL'_t (by omega) (by omega) h7
      refine Ev.run [(.iconst 1, 1), (.istore 7, 2)] (pc' := 30) (L' := [some (.ref 359), some (.ref q1), some (.int (nI a)), some (.int (nI n)), some (.ref q2), some (.int (nI o)), some (.int (nI m)), some (.int (nI 1)), none, none, none, none]) (S' := []) rfl (by decide +kernel) rfl ?_
      exact l_X7_far2 I J q1 q2 n1 n2 a n o m f g hq1 hq2 hn1 hn2 han hom hn hm hf hg hfr hgr e1 e2 (n + 1) 0 h (by omega) (by omega) (fun t ht => by rw [DD_0]; exact h1 t (by omega))
    · have h7 : j ≤ m := zz_bL'_f (by omega) (by omega) h7
      refine Ev.run [(.aload_n 0, 1), (.getfield 46, 3), (.iload 7, 2), (.iconst 4, 1), (.iload 7, 2), (.imul, 1)] (pc' := 20) (L' := [some (.ref 359), some (.ref q1), some (.int (nI a)), some (.int (nI n)), some (.ref q2), some (.int (nI o)), some (.int (nI m)), some (.int (nI j)), none, none, none, none]) (S' := [.int (nI 4 * nI j), .int (nI j), .ref 372]) rfl (by decide +kernel) rfl ?_
      rw [pk_mul 4 j]
      refine Ev.iast j (by decide +kernel) (rfl) (rfl) (by omega) (by first | decide | omega) ?_
      dsimp only
      refine Ev.run [(.iinc 7 1, 3)] (pc' := 24) (L' := [some (.ref 359), some (.ref q1), some (.int (nI a)), some (.int (nI n)), some (.ref q2), some (.int (nI o)), some (.int (nI m)), some (.int (nI j + 1)), none, none, none, none]) (S' := []) rfl (by decide +kernel) rfl ?_
      rw [nI_1 j]
      refine Ev.goto (off := (-21)) (tgt := 3) (by decide +kernel) (by decide) ?_
      rw [zz_cs_up]
      refine ih (j + 1) _ (by omega) (by omega) (fun t ht => ?_)
      by_cases e : t = j
      · subst e; rw [zz_ups]
      · rw [zz_upn e]; exact h1 t (by omega)

set_option maxRecDepth 100000 in
set_option maxHeartbeats 4000000 in
theorem c_X7_farOf {sc : Nat × (Nat → Int32)} {d : Nat} (I : Nat → Nat → Int32) (J : Nat → Nat → Int64) (q1 q2 n1 n2 a n o m : Nat) (f g : Nat → Nat) (hq1 : zz_SH[q1]? = some (.inr (0, n1, []))) (hq2 : zz_SH[q2]? = some (.inr (0, n2, []))) (hn1 : n1 < 1000) (hn2 : n2 < 1000) (han : a + n ≤ n1) (hom : o + m ≤ n2) (hn : n ≤ 12) (hm : m ≤ 12) (hf : ∀ i, i < n → I q1 (a + i) = nI (f i)) (hg : ∀ j, j < m → I q2 (o + j) = nI (g j)) (hfr : ∀ i, i < n → f i < 1000) (hgr : ∀ j, j < m → g j < 1000) (e1 : q1 ≠ 372) (e2 : q2 ≠ 372) : EvM sc (d + 3) 0 0 mX7_farOf [.ref 359, .ref q1, .int (nI a), .int (nI n), .ref q2, .int (nI o), .int (nI m)] (zz_SH, I, J) (fun r σ => r = some (.int (nI (DD f g n m))) ∧ ∃ h, σ = (zz_SH, zz_cs I 372 h, J)) := by
  refine EvM.of (by decide) rfl (Nat.le_of_ble_eq_true rfl) ?_
  show Ev _ _ _ _ _ 0 [some (.ref 359), some (.ref q1), some (.int (nI a)), some (.int (nI n)), some (.ref q2), some (.int (nI o)), some (.int (nI m)), none, none, none, none, none] [] (zz_SH, I, J) _
  refine Ev.run [(.iconst 0, 1), (.istore 7, 2)] (pc' := 3) (L' := [some (.ref 359), some (.ref q1), some (.int (nI a)), some (.int (nI n)), some (.ref q2), some (.int (nI o)), some (.int (nI m)), some (.int (nI 0)), none, none, none, none]) (S' := []) rfl (by decide +kernel) rfl ?_
  have h0 := l_X7_far1 (sc := sc) (d := d) I J q1 q2 n1 n2 a n o m f g hq1 hq2 hn1 hn2 han hom hn hm hf hg hfr hgr e1 e2 (m + 2) 0 (I 372) (by omega) (by omega) (fun t ht => absurd ht (Nat.not_lt_zero t))
  rw [zz_cs_id] at h0
  exact h0
