/-! ===== the class: rates and helpers ===== -/
def hlp (A : zA) (k b : Nat) : Nat → Nat
  | 0 => 0
  | n + 1 => if bnd (lkT A k n) = b then hlp A k b n ||| 2 ^ n else hlp A k b n
theorem hlp_lt (A : zA) (k b : Nat) : ∀ n, hlp A k b n < 2 ^ n
  | 0 => Nat.zero_lt_one
  | n + 1 => by
    have h := hlp_lt A k b n
    have h2 : (2 : Nat) ^ n < 2 ^ (n + 1) := zz_pw (Nat.lt_succ_self n)
    rw [hlp]
    split
    · exact zz_or_lt (Nat.lt_trans h h2) (Nat.lt_succ_self n)
    · exact Nat.lt_trans h h2
theorem hlp_tb (A : zA) (k b : Nat) : ∀ n j, (hlp A k b n).testBit j = true ↔ (j < n ∧ bnd (lkT A k j) = b)
  | 0, j => by simp [hlp]
  | n + 1, j => by
    rw [hlp]
    by_cases h : bnd (lkT A k n) = b
    · rw [if_pos h, zz_or_tb, Bool.or_eq_true, hlp_tb A k b n j, decide_eq_true_iff]
      constructor
      · rintro (h1 | h1)
        · exact ⟨by omega, h1.2⟩
        · subst h1; exact ⟨by omega, h⟩
      · rintro ⟨h1, h2⟩
        by_cases e : n = j
        · exact Or.inr e
        · exact Or.inl ⟨by omega, h2⟩
    · rw [if_neg h, hlp_tb A k b n j]
      constructor
      · rintro ⟨h1, h2⟩; exact ⟨by omega, h2⟩
      · rintro ⟨h1, h2⟩
        refine ⟨?_, h2⟩
        by_cases e : n = j
        · subst e; exact absurd h2 h
        · omega
theorem zz_and_ne {a b : Nat} : ¬ (a &&& b) = 0 ↔ ∃ j, a.testBit j = true ∧ b.testBit j = true := by
  constructor
  · intro h
    apply Classical.byContradiction
    intro hc
    apply h
    apply Nat.eq_of_testBit_eq
    intro j
    rw [Nat.testBit_and, Nat.zero_testBit]
    cases h1 : a.testBit j with
    | false => rfl
    | true =>
      cases h2 : b.testBit j with
      | false => rfl
      | true => exact absurd ⟨j, h1, h2⟩ hc
  · rintro ⟨j, h1, h2⟩ e
    have h3 : (a &&& b).testBit j = true := by rw [Nat.testBit_and, h1, h2]; rfl
    rw [e, Nat.zero_testBit] at h3
    cases h3
theorem hlp_ne {A : zA} {k b done : Nat} : ¬ (hlp A k b (aM A) &&& done) = 0 ↔ ∃ j, j < aM A ∧ bnd (lkT A k j) = b ∧ done.testBit j = true := by
  rw [zz_and_ne]
  constructor
  · rintro ⟨j, h1, h2⟩
    have h3 := (hlp_tb A k b _ j).mp h1
    exact ⟨j, h3.1, h3.2, h2⟩
  · rintro ⟨j, h1, h2, h3⟩
    exact ⟨j, (hlp_tb A k b _ j).mpr ⟨h1, h2⟩, h3⟩
def pwr (A : zA) (k done : Nat) : Nat → Nat
  | 0 => aln A k (aN A)
  | b + 1 => if (hlp A k (b + 1) (aM A) &&& done) = 0 then pwr A k done b else min (pwr A k done b) (rt A (b + 1))
theorem pwr_le {A : zA} (hW : WF A) (k done : Nat) : ∀ b, pwr A k done b ≤ 99
  | 0 => aln_le hW k _
  | b + 1 => by
    have := pwr_le hW k done b
    rw [pwr]
    split <;> omega
theorem lst_lb {A : zA} {k done : Nat} : ∀ n, lst A k done n ≤ aln A k (aN A) ∧ ∀ j, j < n → done.testBit j = true → lst A k done n ≤ bes A k j
  | 0 => ⟨Nat.le_refl _, fun j hj => absurd hj (Nat.not_lt_zero j)⟩
  | n + 1 => by
    obtain ⟨h1, h2⟩ := lst_lb (A := A) (k := k) (done := done) n
    rw [lst]
    split
    · refine ⟨by omega, fun j hj hb => ?_⟩
      by_cases e : j = n
      · subst e; omega
      · have := h2 j (by omega) hb; omega
    · next hn =>
      refine ⟨h1, fun j hj hb => ?_⟩
      by_cases e : j = n
      · subst e; exact absurd hb hn
      · exact h2 j (by omega) hb
theorem lst_at {A : zA} {k done : Nat} : ∀ n, lst A k done n = aln A k (aN A) ∨ ∃ j, j < n ∧ done.testBit j = true ∧ lst A k done n = bes A k j
  | 0 => Or.inl rfl
  | n + 1 => by
    rw [lst]
    split
    · next hn =>
      by_cases q : lst A k done n ≤ bes A k n
      · rw [Nat.min_eq_left q]
        rcases lst_at (A := A) (k := k) (done := done) n with h | ⟨j, h1, h2, h3⟩
        · exact Or.inl h
        · exact Or.inr ⟨j, by omega, h2, h3⟩
      · rw [Nat.min_eq_right (by omega)]
        exact Or.inr ⟨n, Nat.lt_succ_self n, hn, rfl⟩
    · rcases lst_at (A := A) (k := k) (done := done) n with h | ⟨j, h1, h2, h3⟩
      · exact Or.inl h
      · exact Or.inr ⟨j, by omega, h2, h3⟩
theorem pwr_lb {A : zA} {k done : Nat} : ∀ n, pwr A k done n ≤ aln A k (aN A) ∧ ∀ b, b < n → ¬ (hlp A k (b + 1) (aM A) &&& done) = 0 → pwr A k done n ≤ rt A (b + 1)
  | 0 => ⟨Nat.le_refl _, fun j hj => absurd hj (Nat.not_lt_zero j)⟩
  | n + 1 => by
    obtain ⟨h1, h2⟩ := pwr_lb (A := A) (k := k) (done := done) n
    rw [pwr]
    split
    · next hn =>
      refine ⟨h1, fun j hj hb => ?_⟩
      by_cases e : j = n
      · subst e; exact absurd hn hb
      · exact h2 j (by omega) hb
    · refine ⟨by omega, fun j hj hb => ?_⟩
      by_cases e : j = n
      · subst e; omega
      · have := h2 j (by omega) hb; omega
theorem pwr_at {A : zA} {k done : Nat} : ∀ n, pwr A k done n = aln A k (aN A) ∨ ∃ b, b < n ∧ ¬ (hlp A k (b + 1) (aM A) &&& done) = 0 ∧ pwr A k done n = rt A (b + 1)
  | 0 => Or.inl rfl
  | n + 1 => by
    rw [pwr]
    split
    · rcases pwr_at (A := A) (k := k) (done := done) n with h | ⟨j, h1, h2, h3⟩
      · exact Or.inl h
      · exact Or.inr ⟨j, by omega, h2, h3⟩
    · next hn =>
      by_cases q : pwr A k done n ≤ rt A (n + 1)
      · rw [Nat.min_eq_left q]
        rcases pwr_at (A := A) (k := k) (done := done) n with h | ⟨j, h1, h2, h3⟩
        · exact Or.inl h
        · exact Or.inr ⟨j, by omega, h2, h3⟩
      · rw [Nat.min_eq_right (by omega)]
        exact Or.inr ⟨n, Nat.lt_succ_self n, hn, rfl⟩
theorem aln_4 (A : zA) (k : Nat) : ∀ n, aln A k n ≤ rt A 4
  | 0 => Nat.le_refl _
  | n + 1 => by have := aln_4 A k n; rw [aln]; omega
theorem bnd_0 {m : Nat} (h : m ≤ 100) : bnd m ≠ 0 := by
  unfold bnd
  rw [if_neg (by omega)]
  repeat' split
  all_goals omega
theorem pwr_lst (A : zA) (k done : Nat) : pwr A k done 3 = lst A k done (aM A) := by
  apply Nat.le_antisymm
  · rcases lst_at (A := A) (k := k) (done := done) (aM A) with h | ⟨j, h1, h2, h3⟩
    · rw [h]; exact (pwr_lb 3).1
    · rw [h3, bes]
      have q0 : bnd (lkT A k j) ≠ 0 := bnd_0 (lik_le _ _ _ _)
      have q5 := bnd_lt (lkT A k j)
      by_cases q4 : bnd (lkT A k j) = 4
      · rw [q4]; exact Nat.le_trans (pwr_lb 3).1 (aln_4 A k _)
      · have := (pwr_lb (A := A) (k := k) (done := done) 3).2 (bnd (lkT A k j) - 1) (by omega)
        rw [show bnd (lkT A k j) - 1 + 1 = bnd (lkT A k j) by omega] at this
        exact this (hlp_ne.mpr ⟨j, h1, rfl, h2⟩)
  · rcases pwr_at (A := A) (k := k) (done := done) 3 with h | ⟨b, h1, h2, h3⟩
    · rw [h]; exact (lst_lb _).1
    · rw [h3]
      obtain ⟨j, q1, q2, q3⟩ := hlp_ne.mp h2
      have := (lst_lb (A := A) (k := k) (done := done) (aM A)).2 j q1 q3
      rw [bes, q2] at this
      exact this
def RB (A : zA) (I : Nat → Nat → Int32) : Prop := ∀ k, k < aM A → I 311 k = nI (aln A k (aN A))
def HB (A : zA) (I : Nat → Nat → Int32) : Prop := ∀ k, k < aM A → ∀ b, b < 5 → I (313 + k) b = nI (hlp A k b (aM A))

set_option maxRecDepth 100000 in
set_option maxHeartbeats 4000000 in
theorem l_X3_rr1 {sc : Nat × (Nat → Int32)} {d : Nat} (I : Nat → Nat → Int32) (J : Nat → Nat → Int64) (A : zA) (hC : CR 3 I A) (hW : WF A) (h : Nat → Int32) (k : Nat) (hk : k < aM A) (Q : Option Value → zz_St → Prop) (hout : Ev sc (d + 1) 0 0 mX3_readRatesByMemory 61 [some (.ref 310), some (.ref 3), some (.int (nI k)), some (.int (nI (aln A k (aN A)))), none, none] [] (zz_SH, zz_cs I 311 h, J) Q) : ∀ (μ : Nat) (p : Nat), aN A - p < μ → (p ≤ aN A) →  Ev sc (d + 1) 0 0 mX3_readRatesByMemory 20 [some (.ref 310), some (.ref 3), some (.int (nI k)), some (.int (nI (aln A k p))), some (.int (nI p)), none] [] (zz_SH, zz_cs I 311 h, J) (Q) := by
  intro μ
  induction μ with
  | zero => intro p hμ; exact absurd hμ (Nat.not_lt_zero _)
  | succ μ ih =>
    intro p hμ hp
    have w1 := hW.1.1
    have w2 := hW.1.2.1
    have hC1 : CR 3 (zz_cs I 311 h) A := (zCq.cs I 311 h (by decide)).cr hW hC
    refine Ev.run [(.iload 4, 2), (.aload_n 1, 1), (.getfield 88, 3)] (pc' := 26) (L' := [some (.ref 310), some (.ref 3), some (.int (nI k)), some (.int (nI (aln A k p))), some (.int (nI p)), none]) (S' := [.int ((zz_cs I 311 h) 3 10), .int (nI p)]) rfl (by decide +kernel) rfl ?_
    rw [show (zz_cs I 311 h) 3 10 = nI (aN A) from hC1.1.1.1]
    refine Ev.icmp_ge (off := 35) (tgt := 61) (by decide +kernel) (by decide) (fun h26 => ?_) (fun h26 => ?_)
    · have h26 : p ≥ (aN A) := zz_bG_t (by omega) (by omega) h26
      have hpN : aN A = p := by omega
      refine Ev.weakL (L' := [some (.ref 310), some (.ref 3), some (.int (nI k)), some (.int (nI (aln A k p))), none, none]) ⟨rfl, rfl, rfl, rfl, trivial⟩ ?_
      rw [← hpN]; exact hout
    · have h26 : p < (aN A) := zz_bG_f (by omega) (by omega) h26
      refine Ev.run [(.aload_n 1, 1), (.getfield 46, 3), (.iload_n 2, 1)] (pc' := 34) (L' := [some (.ref 310), some (.ref 3), some (.int (nI k)), some (.int (nI (aln A k p))), some (.int (nI p)), none]) (S' := [.int (nI k), .ref 8]) rfl (by decide +kernel) rfl ?_
      refine Ev.aald k (by decide +kernel) (rfl) (by decide) (rfl) (by omega) (by first | decide | omega) (zz_b9 k (by omega)) ?_
      refine Ev.run [(.iload 4, 2)] (pc' := 37) (L' := [some (.ref 310), some (.ref 3), some (.int (nI k)), some (.int (nI (aln A k p))), some (.int (nI p)), none]) (S' := [.int (nI p), .ref (9 + k)]) rfl (by decide +kernel) rfl ?_
      refine Ev.iald p (by decide +kernel) (zz_s9 k (by omega)) (rfl) (by omega) (by first | decide | omega) ?_
      dsimp only
      rw [show (zz_cs I 311 h) (9 + k) p = nI (mtc A k p) from (hC1.2.1 k hk).1 p (by omega)]
      refine Ev.callS0 mX3_bandOf [.int (nI (mtc A k p))] [] _ rfl lk_RX3_49 (by decide +kernel) rfl (Nat.le_of_ble_eq_true rfl) (c_X3_bandOf (zz_cs I 311 h) J (mtc A k p) (by have := mtc_le A k p; omega)) ?_
      rintro _ _ ⟨rfl, rfl⟩
      have b5 := bnd_lt (mtc A k p)
      show Ev _ _ _ _ _ 41 [some (.ref 310), some (.ref 3), some (.int (nI k)), some (.int (nI (aln A k p))), some (.int (nI p)), none] [.int (nI (bnd (mtc A k p)))] (zz_SH, zz_cs I 311 h, J) _
      refine Ev.run [(.istore 5, 2), (.iload_n 3, 1), (.aload_n 1, 1), (.getfield 64, 3), (.iload 5, 2)] (pc' := 50) (L' := [some (.ref 310), some (.ref 3), some (.int (nI k)), some (.int (nI (aln A k p))), some (.int (nI p)), some (.int (nI (bnd (mtc A k p))))]) (S' := [.int (nI (bnd (mtc A k p))), .ref 30, .int (nI (aln A k p))]) rfl (by decide +kernel) rfl ?_
      refine Ev.iald (bnd (mtc A k p)) (by decide +kernel) (rfl) (rfl) (by omega) (by first | decide | omega) ?_
      dsimp only
      rw [show (zz_cs I 311 h) 30 (bnd (mtc A k p)) = nI (rt A (bnd (mtc A k p))) from hC1.1.2.2.2.1 _ b5]
      refine Ev.mmin (idx := 91) (by decide +kernel) (Nat.le_of_ble_eq_true rfl) (by decide +kernel) ?_
      rw [zz_min (a := aln A k p) (b := rt A (bnd (mtc A k p))) (by have := aln_le hW k p; omega) (by have := hW.2.2.2.1 _ b5; omega), show min (aln A k p) (rt A (bnd (mtc A k p))) = aln A k (p + 1) from by rw [aln]]
      refine Ev.run [(.istore_n 3, 1), (.iinc 4 1, 3)] (pc' := 58) (L' := [some (.ref 310), some (.ref 3), some (.int (nI k)), some (.int (nI (aln A k (p + 1)))), some (.int (nI p + 1)), some (.int (nI (bnd (mtc A k p))))]) (S' := []) rfl (by decide +kernel) rfl ?_
      rw [nI_1 p]
      refine Ev.goto (off := (-38)) (tgt := 20) (by decide +kernel) (by decide) ?_
      refine Ev.weakL (L' := [some (.ref 310), some (.ref 3), some (.int (nI k)), some (.int (nI (aln A k (p + 1)))), some (.int (nI (p + 1))), none]) ⟨rfl, rfl, rfl, rfl, rfl, trivial⟩ ?_
      exact ih (p + 1) (by omega) (by omega)

set_option maxRecDepth 100000 in
set_option maxHeartbeats 4000000 in
theorem l_X3_rr2 {sc : Nat × (Nat → Int32)} {d : Nat} (I : Nat → Nat → Int32) (J : Nat → Nat → Int64) (A : zA) (hC : CR 3 I A) (hW : WF A) : ∀ (μ : Nat) (k : Nat) (h : Nat → Int32), aM A - k < μ → (k ≤ aM A) → (∀ t, t < k → h t = nI (aln A t (aN A))) →  Ev sc (d + 1) 0 0 mX3_readRatesByMemory 2 [some (.ref 310), some (.ref 3), some (.int (nI k)), none, none, none] [] (zz_SH, zz_cs I 311 h, J) (fun r σ => r = none ∧ ∃ h : Nat → Int32, (∀ k, k < aM A → h k = nI (aln A k (aN A))) ∧ σ = (zz_SH, zz_cs I 311 h, J)) := by
  intro μ
  induction μ with
  | zero => intro k h hμ; exact absurd hμ (Nat.not_lt_zero _)
  | succ μ ih =>
    intro k h hμ hk hh
    have w1 := hW.1.1
    have w2 := hW.1.2.1
    have hC1 : CR 3 (zz_cs I 311 h) A := (zCq.cs I 311 h (by decide)).cr hW hC
    refine Ev.run [(.iload_n 2, 1), (.aload_n 1, 1), (.getfield 67, 3)] (pc' := 7) (L' := [some (.ref 310), some (.ref 3), some (.int (nI k)), none, none, none]) (S' := [.int ((zz_cs I 311 h) 3 11), .int (nI k)]) rfl (by decide +kernel) rfl ?_
    rw [show (zz_cs I 311 h) 3 11 = nI (aM A) from hC1.1.1.2]
    refine Ev.icmp_ge (off := 67) (tgt := 74) (by decide +kernel) (by decide) (fun h7 => ?_) (fun h7 => ?_)
    · have h7 : k ≥ (aM A) := zz_bG_t (by omega) (by omega) h7
      have hkM : aM A = k := by omega
      exact Ev.vret rfl (by decide +kernel) (⟨rfl, h, fun t ht => hh t (by omega), rfl⟩)
    · have h7 : k < (aM A) := zz_bG_f (by omega) (by omega) h7
      refine Ev.run [(.aload_n 1, 1), (.getfield 64, 3), (.iconst 4, 1)] (pc' := 15) (L' := [some (.ref 310), some (.ref 3), some (.int (nI k)), none, none, none]) (S' := [.int (nI 4), .ref 30]) rfl (by decide +kernel) rfl ?_
      refine Ev.iald 4 (by decide +kernel) (rfl) (rfl) (by omega) (by first | decide | omega) ?_
      dsimp only
      rw [show (zz_cs I 311 h) 30 4 = nI (aln A k 0) from hC1.1.2.2.2.1 4 (by decide)]
      refine Ev.run [(.istore_n 3, 1), (.iconst 0, 1), (.istore 4, 2)] (pc' := 20) (L' := [some (.ref 310), some (.ref 3), some (.int (nI k)), some (.int (nI (aln A k 0))), some (.int (nI 0)), none]) (S' := []) rfl (by decide +kernel) rfl ?_
      refine l_X3_rr1 I J A hC hW h k (by omega) _ ?_ (aN A + 1) 0 (by omega) (by omega)
      show Ev _ _ _ _ _ 61 [some (.ref 310), some (.ref 3), some (.int (nI k)), some (.int (nI (aln A k (aN A)))), none, none] [] (zz_SH, zz_cs I 311 h, J) _
      refine Ev.run [(.aload_n 0, 1), (.getfield 9, 3), (.iload_n 2, 1), (.iload_n 3, 1)] (pc' := 67) (L' := [some (.ref 310), some (.ref 3), some (.int (nI k)), some (.int (nI (aln A k (aN A)))), none, none]) (S' := [.int (nI (aln A k (aN A))), .int (nI k), .ref 311]) rfl (by decide +kernel) rfl ?_
      refine Ev.iast k (by decide +kernel) (rfl) (rfl) (by omega) (by first | decide | omega) ?_
      dsimp only
      refine Ev.run [(.iinc 2 1, 3)] (pc' := 71) (L' := [some (.ref 310), some (.ref 3), some (.int (nI k + 1)), some (.int (nI (aln A k (aN A)))), none, none]) (S' := []) rfl (by decide +kernel) rfl ?_
      rw [nI_1 k]
      refine Ev.goto (off := (-69)) (tgt := 2) (by decide +kernel) (by decide) ?_
      refine Ev.weakL (L' := [some (.ref 310), some (.ref 3), some (.int (nI (k + 1))), none, none, none]) ⟨rfl, rfl, rfl, trivial⟩ ?_
      rw [zz_cs_up]
      refine ih (k + 1) _ (by omega) (by omega) (fun t ht => ?_)
      by_cases e : t = k
      · rw [e, zz_ups]
      · rw [zz_upn e]; exact hh t (by omega)

set_option maxRecDepth 100000 in
set_option maxHeartbeats 4000000 in
theorem c_X3_readRates {sc : Nat × (Nat → Int32)} {d : Nat} (I : Nat → Nat → Int32) (J : Nat → Nat → Int64) (A : zA) (hC : CR 3 I A) (hW : WF A) : EvM sc (d + 1) 0 0 mX3_readRatesByMemory [.ref 310, .ref 3] (zz_SH, I, J) (fun r σ => r = none ∧ ∃ h : Nat → Int32, (∀ k, k < aM A → h k = nI (aln A k (aN A))) ∧ σ = (zz_SH, zz_cs I 311 h, J)) := by
  have w1 := hW.1.1
  have w2 := hW.1.2.1
  refine EvM.of (by decide) rfl (Nat.le_of_ble_eq_true rfl) ?_
  show Ev _ _ _ _ _ 0 [some (.ref 310), some (.ref 3), none, none, none, none] [] (zz_SH, I, J) _
  refine Ev.run [(.iconst 0, 1), (.istore_n 2, 1)] (pc' := 2) (L' := [some (.ref 310), some (.ref 3), some (.int (nI 0)), none, none, none]) (S' := []) rfl (by decide +kernel) rfl ?_
  have h0 := l_X3_rr2 (sc := sc) (d := d) I J A hC hW (aM A + 1) 0 (I 311) (by omega) (by omega) (fun t ht => absurd ht (Nat.not_lt_zero t))
  rw [zz_cs_id] at h0
  exact h0

set_option maxRecDepth 100000 in
set_option maxHeartbeats 4000000 in
theorem l_X3_rh1 {sc : Nat × (Nat → Int32)} {d : Nat} (I : Nat → Nat → Int32) (J : Nat → Nat → Int64) (A : zA) (hC : CR 3 I A) (hW : WF A) (I1 : Nat → Nat → Int32) (hq : zCq I I1) (k : Nat) (hk : k < aM A) (Q : Option Value → zz_St → Prop) (hout : ∀ h : Nat → Int32, (∀ t, t < 5 → h t = nI 0) → Ev sc (d + 1) 0 0 mX3_readHelpers 32 [some (.ref 310), some (.ref 3), some (.int (nI k)), none] [] (zz_SH, zz_cs I1 (313 + k) h, J) Q) : ∀ (μ : Nat) (b : Nat) (h : Nat → Int32), 5 - b < μ → (b ≤ 5) → (∀ t, t < b → h t = nI 0) →  Ev sc (d + 1) 0 0 mX3_readHelpers 12 [some (.ref 310), some (.ref 3), some (.int (nI k)), some (.int (nI b))] [] (zz_SH, zz_cs I1 (313 + k) h, J) (Q) := by
  intro μ
  induction μ with
  | zero => intro b h hμ; exact absurd hμ (Nat.not_lt_zero _)
  | succ μ ih =>
    intro b h hμ hb hh
    have w1 := hW.1.1
    have w2 := hW.1.2.1
    refine Ev.run [(.iload_n 3, 1), (.iconst 5, 1)] (pc' := 14) (L' := [some (.ref 310), some (.ref 3), some (.int (nI k)), some (.int (nI b))]) (S' := [.int (nI 5), .int (nI b)]) rfl (by decide +kernel) rfl ?_
    refine Ev.icmp_ge (off := 18) (tgt := 32) (by decide +kernel) (by decide) (fun h14 => ?_) (fun h14 => ?_)
    · have h14 : b ≥ 5 := zz_bG_t (by omega) (by omega) h14
      have hb5 : b = 5 := by omega
      refine Ev.weakL (L' := [some (.ref 310), some (.ref 3), some (.int (nI k)), none]) ⟨rfl, rfl, rfl, trivial⟩ ?_
      exact hout h (fun t ht => hh t (by omega))
    · have h14 : b < 5 := zz_bG_f (by omega) (by omega) h14
      refine Ev.run [(.aload_n 0, 1), (.getfield 17, 3), (.iload_n 2, 1)] (pc' := 22) (L' := [some (.ref 310), some (.ref 3), some (.int (nI k)), some (.int (nI b))]) (S' := [.int (nI k), .ref 312]) rfl (by decide +kernel) rfl ?_
      refine Ev.aald k (by decide +kernel) (rfl) (by decide) (rfl) (by omega) (by first | decide | omega) (zz_b313 k (by omega)) ?_
      refine Ev.run [(.iload_n 3, 1), (.iconst 0, 1)] (pc' := 25) (L' := [some (.ref 310), some (.ref 3), some (.int (nI k)), some (.int (nI b))]) (S' := [.int (nI 0), .int (nI b), .ref (313 + k)]) rfl (by decide +kernel) rfl ?_
      refine Ev.iast b (by decide +kernel) (zz_s313 k (by omega)) (rfl) (by omega) (by first | decide | omega) ?_
      dsimp only
      refine Ev.run [(.iinc 3 1, 3)] (pc' := 29) (L' := [some (.ref 310), some (.ref 3), some (.int (nI k)), some (.int (nI b + 1))]) (S' := []) rfl (by decide +kernel) rfl ?_
      rw [nI_1 b]
      refine Ev.goto (off := (-17)) (tgt := 12) (by decide +kernel) (by decide) ?_
      rw [zz_cs_up]
      refine ih (b + 1) _ (by omega) (by omega) (fun t ht => ?_)
      by_cases e : t = b
      · rw [e, zz_ups]
      · rw [zz_upn e]; exact hh t (by omega)

set_option maxRecDepth 100000 in
set_option maxHeartbeats 4000000 in
theorem l_X3_rh2 {sc : Nat × (Nat → Int32)} {d : Nat} (I : Nat → Nat → Int32) (J : Nat → Nat → Int64) (A : zA) (hC : CR 3 I A) (hW : WF A) (I1 : Nat → Nat → Int32) (hq : zCq I I1) (k : Nat) (hk : k < aM A) (Q : Option Value → zz_St → Prop) (hout : ∀ h : Nat → Int32, (∀ b, b < 5 → h b = nI (hlp A k b (aM A))) → Ev sc (d + 1) 0 0 mX3_readHelpers 72 [some (.ref 310), some (.ref 3), some (.int (nI k)), none] [] (zz_SH, zz_cs I1 (313 + k) h, J) Q) : ∀ (μ : Nat) (j : Nat) (h : Nat → Int32), aM A - j < μ → (j ≤ aM A) → (∀ b, b < 5 → h b = nI (hlp A k b j)) →  Ev sc (d + 1) 0 0 mX3_readHelpers 34 [some (.ref 310), some (.ref 3), some (.int (nI k)), some (.int (nI j))] [] (zz_SH, zz_cs I1 (313 + k) h, J) (Q) := by
  intro μ
  induction μ with
  | zero => intro j h hμ; exact absurd hμ (Nat.not_lt_zero _)
  | succ μ ih =>
    intro j h hμ hj hh
    have w1 := hW.1.1
    have w2 := hW.1.2.1
    have hC1 : CR 3 (zz_cs I1 (313 + k) h) A := ((zCq.cs I1 (313 + k) h (by omega)).cr hW (hq.cr hW hC))
    refine Ev.run [(.iload_n 3, 1), (.aload_n 1, 1), (.getfield 67, 3)] (pc' := 39) (L' := [some (.ref 310), some (.ref 3), some (.int (nI k)), some (.int (nI j))]) (S' := [.int ((zz_cs I1 (313 + k) h) 3 11), .int (nI j)]) rfl (by decide +kernel) rfl ?_
    rw [show (zz_cs I1 (313 + k) h) 3 11 = nI (aM A) from hC1.1.1.2]
    refine Ev.icmp_ge (off := 33) (tgt := 72) (by decide +kernel) (by decide) (fun h39 => ?_) (fun h39 => ?_)
    · have h39 : j ≥ (aM A) := zz_bG_t (by omega) (by omega) h39
      have hjM : aM A = j := by omega
      refine Ev.weakL (L' := [some (.ref 310), some (.ref 3), some (.int (nI k)), none]) ⟨rfl, rfl, rfl, trivial⟩ ?_
      exact hout h (fun b hb => by rw [hjM]; exact hh b hb)
    · have h39 : j < (aM A) := zz_bG_f (by omega) (by omega) h39
      refine Ev.run [(.aload_n 0, 1), (.getfield 17, 3), (.iload_n 2, 1)] (pc' := 47) (L' := [some (.ref 310), some (.ref 3), some (.int (nI k)), some (.int (nI j))]) (S' := [.int (nI k), .ref 312]) rfl (by decide +kernel) rfl ?_
      refine Ev.aald k (by decide +kernel) (rfl) (by decide) (rfl) (by omega) (by first | decide | omega) (zz_b313 k (by omega)) ?_
      refine Ev.run [(.aload_n 1, 1), (.getfield 97, 3), (.iload_n 2, 1)] (pc' := 53) (L' := [some (.ref 310), some (.ref 3), some (.int (nI k)), some (.int (nI j))]) (S' := [.int (nI k), .ref 19, .ref (313 + k)]) rfl (by decide +kernel) rfl ?_
      refine Ev.aald k (by decide +kernel) (rfl) (by decide) (rfl) (by omega) (by first | decide | omega) (zz_b20 k (by omega)) ?_
      refine Ev.run [(.iload_n 3, 1)] (pc' := 55) (L' := [some (.ref 310), some (.ref 3), some (.int (nI k)), some (.int (nI j))]) (S' := [.int (nI j), .ref (20 + k), .ref (313 + k)]) rfl (by decide +kernel) rfl ?_
      refine Ev.iald j (by decide +kernel) (zz_s20 k (by omega)) (rfl) (by omega) (by first | decide | omega) ?_
      dsimp only
      rw [show (zz_cs I1 (313 + k) h) (20 + k) j = nI (lkT A k j) from (hC1.2.1 k hk).2 j (by omega)]
      refine Ev.callS0 mX3_bandOf [.int (nI (lkT A k j))] [.ref (313 + k)] _ rfl lk_RX3_49 (by decide +kernel) rfl (Nat.le_of_ble_eq_true rfl) (c_X3_bandOf (zz_cs I1 (313 + k) h) J (lkT A k j) (by have : lkT A k j ≤ 100 := lik_le _ _ _ _; omega)) ?_
      rintro _ _ ⟨rfl, rfl⟩
      have b5 := bnd_lt (lkT A k j)
      show Ev _ _ _ _ _ 59 [some (.ref 310), some (.ref 3), some (.int (nI k)), some (.int (nI j))] [.int (nI (bnd (lkT A k j))), .ref (313 + k)] (zz_SH, zz_cs I1 (313 + k) h, J) _
      refine Ev.run [(.dup2, 1)] (pc' := 60) (L' := [some (.ref 310), some (.ref 3), some (.int (nI k)), some (.int (nI j))]) (S' := [.int (nI (bnd (lkT A k j))), .ref (313 + k), .int (nI (bnd (lkT A k j))), .ref (313 + k)]) rfl (by decide +kernel) rfl ?_
      refine Ev.iald (bnd (lkT A k j)) (by decide +kernel) (zz_s313 k (by omega)) (rfl) (by omega) (by first | decide | omega) ?_
      dsimp only
      rw [show (zz_cs I1 (313 + k) h) (313 + k) (bnd (lkT A k j)) = nI (hlp A k (bnd (lkT A k j)) j) from by rw [zz_cs_eq]; exact hh _ b5]
      refine Ev.run [(.iconst 1, 1), (.iload_n 3, 1), (.ishl, 1)] (pc' := 64) (L' := [some (.ref 310), some (.ref 3), some (.int (nI k)), some (.int (nI j))]) (S' := [.int ((nI 1) <<< (nI j &&& 31)), .int (nI (hlp A k (bnd (lkT A k j)) j)), .int (nI (bnd (lkT A k j))), .ref (313 + k)]) rfl (by decide +kernel) rfl ?_
      rw [zz_shl1 (k := j) (by omega)]
      refine Ev.run [(.ior, 1)] (pc' := 65) (L' := [some (.ref 310), some (.ref 3), some (.int (nI k)), some (.int (nI j))]) (S' := [.int (nI (hlp A k (bnd (lkT A k j)) j) ||| nI (2 ^ j)), .int (nI (bnd (lkT A k j))), .ref (313 + k)]) rfl (by decide +kernel) rfl ?_
      rw [zz_or (hlp A k (bnd (lkT A k j)) j) (2 ^ j)]
      refine Ev.iast (bnd (lkT A k j)) (by decide +kernel) (zz_s313 k (by omega)) (rfl) (by omega) (by first | decide | omega) ?_
      dsimp only
      refine Ev.run [(.iinc 3 1, 3)] (pc' := 69) (L' := [some (.ref 310), some (.ref 3), some (.int (nI k)), some (.int (nI j + 1))]) (S' := []) rfl (by decide +kernel) rfl ?_
      rw [nI_1 j]
      refine Ev.goto (off := (-35)) (tgt := 34) (by decide +kernel) (by decide) ?_
      rw [zz_cs_up]
      refine ih (j + 1) _ (by omega) (by omega) (fun b hb => ?_)
      rw [hlp]
      by_cases e : bnd (lkT A k j) = b
      · rw [if_pos e, ← e, zz_ups]
      · rw [if_neg e, zz_upn (fun q => e q.symm)]; exact hh b hb

set_option maxRecDepth 100000 in
set_option maxHeartbeats 4000000 in
theorem l_X3_rh3 {sc : Nat × (Nat → Int32)} {d : Nat} (I : Nat → Nat → Int32) (J : Nat → Nat → Int64) (A : zA) (hC : CR 3 I A) (hW : WF A) : ∀ (μ : Nat) (k : Nat) (I1 : Nat → Nat → Int32), aM A - k < μ → (k ≤ aM A) → (∀ c, (c < 313 ∨ 322 < c) → I1 c = I c) → (∀ t, t < k → ∀ b, b < 5 → I1 (313 + t) b = nI (hlp A t b (aM A))) →  Ev sc (d + 1) 0 0 mX3_readHelpers 2 [some (.ref 310), some (.ref 3), some (.int (nI k)), none] [] (zz_SH, I1, J) (fun r σ => r = none ∧ ∃ I' : Nat → Nat → Int32, (∀ c, (c < 313 ∨ 322 < c) → I' c = I c) ∧ HB A I' ∧ σ = (zz_SH, I', J)) := by
  intro μ
  induction μ with
  | zero => intro k I1 hμ; exact absurd hμ (Nat.not_lt_zero _)
  | succ μ ih =>
    intro k I1 hμ hk f1 f2
    have w1 := hW.1.1
    have w2 := hW.1.2.1
    have hq : zCq I I1 := fun c hc => f1 c (by omega)
    refine Ev.run [(.iload_n 2, 1), (.aload_n 1, 1), (.getfield 67, 3)] (pc' := 7) (L' := [some (.ref 310), some (.ref 3), some (.int (nI k)), none]) (S' := [.int (I1 3 11), .int (nI k)]) rfl (by decide +kernel) rfl ?_
    rw [show I1 3 11 = nI (aM A) from by rw [f1 3 (by omega)]; exact hC.1.1.2]
    refine Ev.icmp_ge (off := 71) (tgt := 78) (by decide +kernel) (by decide) (fun h7 => ?_) (fun h7 => ?_)
    · have h7 : k ≥ (aM A) := zz_bG_t (by omega) (by omega) h7
      have hkM : aM A = k := by omega
      exact Ev.vret rfl (by decide +kernel) (⟨rfl, I1, f1, fun t ht b hb => f2 t (by omega) b hb, rfl⟩)
    · have h7 : k < (aM A) := zz_bG_f (by omega) (by omega) h7
      refine Ev.run [(.iconst 0, 1), (.istore_n 3, 1)] (pc' := 12) (L' := [some (.ref 310), some (.ref 3), some (.int (nI k)), some (.int (nI 0))]) (S' := []) rfl (by decide +kernel) rfl ?_
      rw [← zz_cs_id I1 (313 + k)]
      refine l_X3_rh1 I J A hC hW I1 hq k (by omega) _ ?_ 6 0 (I1 (313 + k)) (by omega) (by omega) (fun t ht => absurd ht (Nat.not_lt_zero t))
      intro h hh
      show Ev _ _ _ _ _ 32 [some (.ref 310), some (.ref 3), some (.int (nI k)), none] [] (zz_SH, zz_cs I1 (313 + k) h, J) _
      refine Ev.run [(.iconst 0, 1), (.istore_n 3, 1)] (pc' := 34) (L' := [some (.ref 310), some (.ref 3), some (.int (nI k)), some (.int (nI 0))]) (S' := []) rfl (by decide +kernel) rfl ?_
      refine l_X3_rh2 I J A hC hW I1 hq k (by omega) _ ?_ (aM A + 1) 0 h (by omega) (by omega) (fun b hb => hh b hb)
      intro h9 hh9
      show Ev _ _ _ _ _ 72 [some (.ref 310), some (.ref 3), some (.int (nI k)), none] [] (zz_SH, zz_cs I1 (313 + k) h9, J) _
      refine Ev.run [(.iinc 2 1, 3)] (pc' := 75) (L' := [some (.ref 310), some (.ref 3), some (.int (nI k + 1)), none]) (S' := []) rfl (by decide +kernel) rfl ?_
      rw [nI_1 k]
      refine Ev.goto (off := (-73)) (tgt := 2) (by decide +kernel) (by decide) ?_
      refine ih (k + 1) _ (by omega) (by omega) (fun c hc => by rw [zz_cs_ne (by omega)]; exact f1 c hc) (fun t ht b hb => ?_)
      by_cases e : t = k
      · rw [e, zz_cs_eq]; exact hh9 b hb
      · rw [zz_cs_ne (by omega)]; exact f2 t (by omega) b hb

set_option maxRecDepth 100000 in
set_option maxHeartbeats 4000000 in
theorem c_X3_readHelpers {sc : Nat × (Nat → Int32)} {d : Nat} (I : Nat → Nat → Int32) (J : Nat → Nat → Int64) (A : zA) (hC : CR 3 I A) (hW : WF A) : EvM sc (d + 1) 0 0 mX3_readHelpers [.ref 310, .ref 3] (zz_SH, I, J) (fun r σ => r = none ∧ ∃ I' : Nat → Nat → Int32, (∀ c, (c < 313 ∨ 322 < c) → I' c = I c) ∧ HB A I' ∧ σ = (zz_SH, I', J)) := by
  have w1 := hW.1.1
  have w2 := hW.1.2.1
  refine EvM.of (by decide) rfl (Nat.le_of_ble_eq_true rfl) ?_
  show Ev _ _ _ _ _ 0 [some (.ref 310), some (.ref 3), none, none] [] (zz_SH, I, J) _
  refine Ev.run [(.iconst 0, 1), (.istore_n 2, 1)] (pc' := 2) (L' := [some (.ref 310), some (.ref 3), some (.int (nI 0)), none]) (S' := []) rfl (by decide +kernel) rfl ?_
  exact l_X3_rh3 I J A hC hW (aM A + 1) 0 I (by omega) (by omega) (fun _ _ => rfl) (fun t ht => absurd ht (Nat.not_lt_zero t))

set_option maxRecDepth 100000 in
set_option maxHeartbeats 4000000 in
theorem l_X3_pw {sc : Nat × (Nat → Int32)} {d : Nat} (I : Nat → Nat → Int32) (J : Nat → Nat → Int64) (A : zA) (hC : CR 3 I A) (hW : WF A) (hR : RB A I) (hH : HB A I) (done k : Nat) (hd : done < 2 ^ aM A) (hk : k < aM A) (hB : I 323 (done ||| 2 ^ k) = nI (BT A (done ||| 2 ^ k))) : ∀ (μ : Nat) (b : Nat), 3 - b < μ → (b ≤ 3) →  Ev sc (d + 1) 0 0 mX3_priceWith 11 [some (.ref 310), some (.ref 3), some (.int (nI done)), some (.int (nI k)), some (.int (nI (pwr A k done b))), some (.int (nI (b + 1)))] [] (zz_SH, I, J) (zz_is (.int (nI (cst A k done + BT A (done ||| 2 ^ k)))) (zz_SH, I, J)) := by
  intro μ
  induction μ with
  | zero => intro b hμ; exact absurd hμ (Nat.not_lt_zero _)
  | succ μ ih =>
    intro b hμ hb
    have w1 := hW.1.1
    have w2 := hW.1.2.1
    have p2 : (2 : Nat) ^ aM A ≤ 2 ^ 10 := zz_pw2 w2
    have p3 := zz_or_lt hd hk
    refine Ev.run [(.iload 5, 2), (.iconst 4, 1)] (pc' := 14) (L' := [some (.ref 310), some (.ref 3), some (.int (nI done)), some (.int (nI k)), some (.int (nI (pwr A k done b))), some (.int (nI (b + 1)))]) (S' := [.int (nI 4), .int (nI (b + 1))]) rfl (by decide +kernel) rfl ?_
    refine Ev.icmp_ge (off := 37) (tgt := 51) (by decide +kernel) (by decide) (fun h14 => ?_) (fun h14 => ?_)
    · have h14 : (b + 1) ≥ 4 := zz_bG_t (by omega) (by omega) h14
      have hb3 : b = 3 := by omega
      refine Ev.run [(.aload_n 1, 1), (.getfield 56, 3), (.iload_n 3, 1)] (pc' := 56) (L' := [some (.ref 310), some (.ref 3), some (.int (nI done)), some (.int (nI k)), some (.int (nI (pwr A k done b))), some (.int (nI (b + 1)))]) (S' := [.int (nI k), .ref 7]) rfl (by decide +kernel) rfl ?_
      refine Ev.aald k (by decide +kernel) (rfl) (by decide) (rfl) (by omega) (by first | decide | omega) (zz_a84 k (by omega)) ?_
      refine Ev.getf (idx := 60) (x := none) (v := .int (I (84 + 2 * k) 1)) rfl rfl (by decide +kernel) ((zz_r84 k (by omega)).1) rfl rfl ?_
      rw [show I (84 + 2 * k) 1 = nI (tz A k) from (hC.1.2.2.1 k hk).1]
      refine Ev.run [(.iload 4, 2), (.imul, 1)] (pc' := 63) (L' := [some (.ref 310), some (.ref 3), some (.int (nI done)), some (.int (nI k)), some (.int (nI (pwr A k done b))), some (.int (nI (b + 1)))]) (S' := [.int (nI (tz A k) * nI (pwr A k done b))]) rfl (by decide +kernel) rfl ?_
      rw [pk_mul (tz A k) (pwr A k done b)]
      refine Ev.run [(.aload_n 0, 1), (.getfield 20, 3), (.iload_n 2, 1), (.iconst 1, 1), (.iload_n 3, 1), (.ishl, 1)] (pc' := 71) (L' := [some (.ref 310), some (.ref 3), some (.int (nI done)), some (.int (nI k)), some (.int (nI (pwr A k done b))), some (.int (nI (b + 1)))]) (S' := [.int ((nI 1) <<< (nI k &&& 31)), .int (nI done), .ref 323, .int (nI ((tz A k) * (pwr A k done b)))]) rfl (by decide +kernel) rfl ?_
      rw [zz_shl1 (k := k) (by omega)]
      refine Ev.run [(.ior, 1)] (pc' := 72) (L' := [some (.ref 310), some (.ref 3), some (.int (nI done)), some (.int (nI k)), some (.int (nI (pwr A k done b))), some (.int (nI (b + 1)))]) (S' := [.int (nI done ||| nI (2 ^ k)), .ref 323, .int (nI ((tz A k) * (pwr A k done b)))]) rfl (by decide +kernel) rfl ?_
      rw [zz_or done (2 ^ k)]
      refine Ev.iald (done ||| (2 ^ k)) (by decide +kernel) (rfl) (rfl) (by omega) (by first | decide | omega) ?_
      dsimp only
      rw [hB]
      refine Ev.run [(.iadd, 1)] (pc' := 74) (L' := [some (.ref 310), some (.ref 3), some (.int (nI done)), some (.int (nI k)), some (.int (nI (pwr A k done b))), some (.int (nI (b + 1)))]) (S' := [.int (nI ((tz A k) * (pwr A k done b)) + nI (BT A (done ||| 2 ^ k)))]) rfl (by decide +kernel) rfl ?_
      rw [nI_add ((tz A k) * (pwr A k done b)) (BT A (done ||| 2 ^ k))]
      exact Ev.iret rfl (by decide +kernel) (⟨by rw [cst, ← pwr_lst, hb3], rfl⟩)
    · have h14 : (b + 1) < 4 := zz_bG_f (by omega) (by omega) h14
      have q1 := hlp_lt A k (b + 1) (aM A)
      have q2 : hlp A k (b + 1) (aM A) &&& done ≤ hlp A k (b + 1) (aM A) := Nat.and_le_left
      refine Ev.run [(.aload_n 0, 1), (.getfield 17, 3), (.iload_n 3, 1)] (pc' := 22) (L' := [some (.ref 310), some (.ref 3), some (.int (nI done)), some (.int (nI k)), some (.int (nI (pwr A k done b))), some (.int (nI (b + 1)))]) (S' := [.int (nI k), .ref 312]) rfl (by decide +kernel) rfl ?_
      refine Ev.aald k (by decide +kernel) (rfl) (by decide) (rfl) (by omega) (by first | decide | omega) (zz_b313 k (by omega)) ?_
      refine Ev.run [(.iload 5, 2)] (pc' := 25) (L' := [some (.ref 310), some (.ref 3), some (.int (nI done)), some (.int (nI k)), some (.int (nI (pwr A k done b))), some (.int (nI (b + 1)))]) (S' := [.int (nI (b + 1)), .ref (313 + k)]) rfl (by decide +kernel) rfl ?_
      refine Ev.iald (b + 1) (by decide +kernel) (zz_s313 k (by omega)) (rfl) (by omega) (by first | decide | omega) ?_
      dsimp only
      rw [show I (313 + k) (b + 1) = nI (hlp A k (b + 1) (aM A)) from hH k hk (b + 1) (by omega)]
      refine Ev.run [(.iload_n 2, 1), (.iand, 1)] (pc' := 28) (L' := [some (.ref 310), some (.ref 3), some (.int (nI done)), some (.int (nI k)), some (.int (nI (pwr A k done b))), some (.int (nI (b + 1)))]) (S' := [.int (nI (hlp A k (b + 1) (aM A)) &&& nI done)]) rfl (by decide +kernel) rfl ?_
      rw [zz_and (hlp A k (b + 1) (aM A)) done]
      refine Ev.if_eq (off := 17) (tgt := 45) (by decide +kernel) (by decide) (fun h28 => ?_) (fun h28 => ?_)
      · have h28 : ((hlp A k (b + 1) (aM A)) &&& done) = 0 := zz_bE_t (by omega) (by omega) h28
        refine Ev.run [(.iinc 5 1, 3)] (pc' := 48) (L' := [some (.ref 310), some (.ref 3), some (.int (nI done)), some (.int (nI k)), some (.int (nI (pwr A k done b))), some (.int (nI (b + 1) + 1))]) (S' := []) rfl (by decide +kernel) rfl ?_
        rw [nI_1 (b + 1)]
        refine Ev.goto (off := (-37)) (tgt := 11) (by decide +kernel) (by decide) ?_
        rw [show pwr A k done b = pwr A k done (b + 1) from by rw [pwr, if_pos h28]]
        exact ih (b + 1) (by omega) (by omega)
      · have h28 : ¬ ((hlp A k (b + 1) (aM A)) &&& done) = 0 := zz_bE_f (by omega) (by omega) h28
        refine Ev.run [(.iload 4, 2), (.aload_n 1, 1), (.getfield 64, 3), (.iload 5, 2)] (pc' := 39) (L' := [some (.ref 310), some (.ref 3), some (.int (nI done)), some (.int (nI k)), some (.int (nI (pwr A k done b))), some (.int (nI (b + 1)))]) (S' := [.int (nI (b + 1)), .ref 30, .int (nI (pwr A k done b))]) rfl (by decide +kernel) rfl ?_
        refine Ev.iald (b + 1) (by decide +kernel) (rfl) (rfl) (by omega) (by first | decide | omega) ?_
        dsimp only
        rw [show I 30 (b + 1) = nI (rt A (b + 1)) from hC.1.2.2.2.1 (b + 1) (by omega)]
        refine Ev.mmin (idx := 91) (by decide +kernel) (Nat.le_of_ble_eq_true rfl) (by decide +kernel) ?_
        rw [zz_min (a := pwr A k done b) (b := rt A (b + 1)) (by have := pwr_le hW k done b; omega) (by have := hW.2.2.2.1 (b + 1) (by omega); omega)]
        refine Ev.run [(.istore 4, 2), (.iinc 5 1, 3)] (pc' := 48) (L' := [some (.ref 310), some (.ref 3), some (.int (nI done)), some (.int (nI k)), some (.int (nI (min (pwr A k done b) (rt A (b + 1))))), some (.int (nI (b + 1) + 1))]) (S' := []) rfl (by decide +kernel) rfl ?_
        rw [nI_1 (b + 1)]
        refine Ev.goto (off := (-37)) (tgt := 11) (by decide +kernel) (by decide) ?_
        rw [show min (pwr A k done b) (rt A (b + 1)) = pwr A k done (b + 1) from by rw [pwr, if_neg h28]]
        exact ih (b + 1) (by omega) (by omega)

set_option maxRecDepth 100000 in
set_option maxHeartbeats 4000000 in
theorem c_X3_priceWith {sc : Nat × (Nat → Int32)} {d : Nat} (I : Nat → Nat → Int32) (J : Nat → Nat → Int64) (A : zA) (hC : CR 3 I A) (hW : WF A) (hR : RB A I) (hH : HB A I) (done k : Nat) (hd : done < 2 ^ aM A) (hk : k < aM A) (hB : I 323 (done ||| 2 ^ k) = nI (BT A (done ||| 2 ^ k))) : EvM sc (d + 1) 0 0 mX3_priceWith [.ref 310, .ref 3, .int (nI done), .int (nI k)] (zz_SH, I, J) (zz_is (.int (nI (cst A k done + BT A (done ||| 2 ^ k)))) (zz_SH, I, J)) := by
  have w1 := hW.1.1
  have w2 := hW.1.2.1
  have p2 : (2 : Nat) ^ aM A ≤ 2 ^ 10 := zz_pw2 w2
  have p3 := zz_or_lt hd hk
  refine EvM.of (by decide) rfl (Nat.le_of_ble_eq_true rfl) ?_
  show Ev _ _ _ _ _ 0 [some (.ref 310), some (.ref 3), some (.int (nI done)), some (.int (nI k)), none, none] [] (zz_SH, I, J) _
  refine Ev.run [(.aload_n 0, 1), (.getfield 9, 3), (.iload_n 3, 1)] (pc' := 5) (L' := [some (.ref 310), some (.ref 3), some (.int (nI done)), some (.int (nI k)), none, none]) (S' := [.int (nI k), .ref 311]) rfl (by decide +kernel) rfl ?_
  refine Ev.iald k (by decide +kernel) (rfl) (rfl) (by omega) (by first | decide | omega) ?_
  dsimp only
  rw [show I 311 k = nI (pwr A k done 0) from hR k hk]
  refine Ev.run [(.istore 4, 2), (.iconst 1, 1), (.istore 5, 2)] (pc' := 11) (L' := [some (.ref 310), some (.ref 3), some (.int (nI done)), some (.int (nI k)), some (.int (nI (pwr A k done 0))), some (.int (nI 1))]) (S' := []) rfl (by decide +kernel) rfl ?_
  exact l_X3_pw I J A hC hW hR hH done k hd hk hB 4 0 (by omega) (by omega)
