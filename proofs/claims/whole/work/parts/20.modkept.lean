/-! ===== the model: needs, kept ===== -/
def bcn (s : Nat) : Nat → Nat
  | 0 => 0
  | n + 1 => bcn s n + (s / 2 ^ n &&& 1)
theorem bcn_le (s : Nat) : ∀ n, bcn s n ≤ n
  | 0 => Nat.le_refl _
  | n + 1 => by have := bcn_le s n; have := zz_tb_le s n; rw [bcn]; omega
def ned (A : zA) (k : Nat) : Nat → Nat
  | 0 => 0
  | n + 1 => if bfd A k < 4 ∧ bnd (mtc A k n) = bfd A k then ned A k n ||| 2 ^ n else ned A k n
theorem ned_4 {A : zA} {k : Nat} (h : 4 ≤ bfd A k) : ∀ n, ned A k n = 0
  | 0 => rfl
  | n + 1 => by rw [ned, if_neg (by omega), ned_4 h n]
theorem ned_lt (A : zA) (k : Nat) : ∀ n, ned A k n < 2 ^ n
  | 0 => Nat.zero_lt_one
  | n + 1 => by
    have h := ned_lt A k n
    have h2 : (2 : Nat) ^ n < 2 ^ (n + 1) := zz_pw (Nat.lt_succ_self n)
    rw [ned]
    split
    · exact zz_or_lt (Nat.lt_trans h h2) (Nat.lt_succ_self n)
    · exact Nat.lt_trans h h2
def en (A : zA) (s : Nat) : Nat → Bool
  | 0 => true
  | n + 1 => en A s n && (ned A n (aN A) == 0 || (ned A n (aN A) &&& s) != 0)
theorem en_iff {A : zA} {s : Nat} : ∀ n, en A s n = true ↔ ∀ k, k < n → ned A k (aN A) = 0 ∨ ¬ (ned A k (aN A) &&& s) = 0
  | 0 => ⟨fun _ k hk => absurd hk (Nat.not_lt_zero k), fun _ => rfl⟩
  | n + 1 => by
    rw [en, Bool.and_eq_true, en_iff n]
    constructor
    · rintro ⟨h1, h2⟩ k hk
      by_cases e : k = n
      · subst e
        simpa using h2
      · exact h1 k (by omega)
    · intro h
      refine ⟨fun k hk => h k (by omega), ?_⟩
      have := h n (by omega)
      simpa using this
def kps (A : zA) : Nat → Option Nat
  | 0 => none
  | s + 1 => match kps A s with
    | none => if en A s (aM A) = true then some s else none
    | some f => if bcn s 12 < bcn f 12 ∧ en A s (aM A) = true then some s else some f
theorem kps_lt {A : zA} : ∀ s f, kps A s = some f → f < s
  | 0, f, h => by cases h
  | s + 1, f, h => by
    rw [kps] at h
    split at h
    · split at h
      · cases h; omega
      · cases h
    · next g hg =>
      have := kps_lt s g hg
      split at h
      · cases h; omega
      · cases h; omega
def zS5 (I I' : Nat → Nat → Int32) : Prop := (∀ c, c ≠ 372 → c ≠ 359 → c ≠ 376 → I' c = I c) ∧ ∀ j, j ≠ 17 → I' 359 j = I 359 j
theorem zS5.rf (I : Nat → Nat → Int32) : zS5 I I := ⟨fun _ _ _ _ => rfl, fun _ _ => rfl⟩
theorem zS5.tr {I I' I'' : Nat → Nat → Int32} (h : zS5 I I') (h' : zS5 I' I'') : zS5 I I'' := ⟨fun c h1 h2 h3 => (h'.1 c h1 h2 h3).trans (h.1 c h1 h2 h3), fun j hj => (h'.2 j hj).trans (h.2 j hj)⟩
theorem zS2.s5 {I I' : Nat → Nat → Int32} (h : zS2 I I') : zS5 I I' := ⟨fun c h1 h2 _ => h.1 c h1 h2, h.2⟩
theorem zS5.up (I : Nat → Nat → Int32) (j : Nat) (v : Int32) : zS5 I (zz_up I 376 j v) := ⟨fun c _ _ h3 => zz_up_ne h3, fun j _ => by rw [zz_up_ne (by decide)]⟩
theorem zS5.sc {I I' : Nat → Nat → Int32} (h : zS5 I I') : zSc I I' := ⟨fun c hc => h.1 c (by omega) (by omega) (by omega), h.1 360 (by decide) (by decide) (by decide), fun c h1 h2 => h.1 c (by omega) (by omega) (by omega), h.1 379 (by decide) (by decide) (by decide), h.1 380 (by decide) (by decide) (by decide), h.2 0 (by decide), h.2 2 (by decide), h.2 8 (by decide)⟩
theorem zS5.mv {I I' : Nat → Nat → Int32} {A : zA} (h : zS5 I I') (hV : MV (zVm I) A) : MV (zVm I') A := h.sc.mv hV

set_option maxRecDepth 100000 in
set_option maxHeartbeats 4000000 in
theorem l_X7_bits {sc : Nat × (Nat → Int32)} {d : Nat} (I : Nat → Nat → Int32) (J : Nat → Nat → Int64) (s : Nat) (hs : s < 4096) : ∀ (μ : Nat) (k : Nat), 12 - k < μ → (k ≤ 12) →  Ev sc (d) 0 0 mX7_bits 4 [some (.int (nI s)), some (.int (nI (bcn s k))), some (.int (nI k))] [] (zz_SH, I, J) (zz_is (.int (nI (bcn s 12))) (zz_SH, I, J)) := by
  intro μ
  induction μ with
  | zero => intro k hμ; exact absurd hμ (Nat.not_lt_zero _)
  | succ μ ih =>
    intro k hμ hk
    have q0 := bcn_le s k
    refine Ev.run [(.iload_n 2, 1), (.bipush 12, 2)] (pc' := 7) (L' := [some (.int (nI s)), some (.int (nI (bcn s k))), some (.int (nI k))]) (S' := [.int (nI 12), .int (nI k)]) rfl (by decide +kernel) rfl ?_
    refine Ev.icmp_ge (off := 17) (tgt := 24) (by decide +kernel) (by decide) (fun h7 => ?_) (fun h7 => ?_)
    · have h7 : k ≥ 12 := zz_bG_t (by omega) (by omega) h7
      have hk12 : k = 12 := by omega
      refine Ev.run [(.iload_n 1, 1)] (pc' := 25) (L' := [some (.int (nI s)), some (.int (nI (bcn s k))), some (.int (nI k))]) (S' := [.int (nI (bcn s k))]) rfl (by decide +kernel) rfl ?_
      exact Ev.iret rfl (by decide +kernel) (⟨by rw [hk12], rfl⟩)
    · have h7 : k < 12 := zz_bG_f (by omega) (by omega) h7
      refine Ev.run [(.iload_n 1, 1), (.iload_n 0, 1), (.iload_n 2, 1), (.ishr, 1)] (pc' := 14) (L' := [some (.int (nI s)), some (.int (nI (bcn s k))), some (.int (nI k))]) (S' := [.int ((nI s) >>> (nI k &&& 31)), .int (nI (bcn s k))]) rfl (by decide +kernel) rfl ?_
      rw [zz_shr (a := s) (k := k) (by omega) (by omega)]
      refine Ev.run [(.iconst 1, 1)] (pc' := 15) (L' := [some (.int (nI s)), some (.int (nI (bcn s k))), some (.int (nI k))]) (S' := [.int (nI 1), .int (nI (s / 2 ^ k)), .int (nI (bcn s k))]) rfl (by decide +kernel) rfl ?_
      have q1 := zz_tb_le s k
      refine Ev.run [(.iand, 1)] (pc' := 16) (L' := [some (.int (nI s)), some (.int (nI (bcn s k))), some (.int (nI k))]) (S' := [.int (nI (s / 2 ^ k) &&& nI 1), .int (nI (bcn s k))]) rfl (by decide +kernel) rfl ?_
      rw [zz_and (s / 2 ^ k) 1]
      refine Ev.run [(.iadd, 1)] (pc' := 17) (L' := [some (.int (nI s)), some (.int (nI (bcn s k))), some (.int (nI k))]) (S' := [.int (nI (bcn s k) + nI ((s / 2 ^ k) &&& 1))]) rfl (by decide +kernel) rfl ?_
      rw [nI_add (bcn s k) ((s / 2 ^ k) &&& 1)]
      refine Ev.run [(.istore_n 1, 1), (.iinc 2 1, 3)] (pc' := 21) (L' := [some (.int (nI s)), some (.int (nI ((bcn s k) + ((s / 2 ^ k) &&& 1)))), some (.int (nI k + 1))]) (S' := []) rfl (by decide +kernel) rfl ?_
      rw [nI_1 k]
      refine Ev.goto (off := (-17)) (tgt := 4) (by decide +kernel) (by decide) ?_
      exact ih (k + 1) (by omega) (by omega)

set_option maxRecDepth 100000 in
set_option maxHeartbeats 4000000 in
theorem c_X7_bits {sc : Nat × (Nat → Int32)} {d : Nat} (I : Nat → Nat → Int32) (J : Nat → Nat → Int64) (s : Nat) (hs : s < 4096) : EvM sc (d) 0 0 mX7_bits [.int (nI s)] (zz_SH, I, J) (zz_is (.int (nI (bcn s 12))) (zz_SH, I, J)) := by
  refine EvM.of (by decide) rfl (Nat.le_of_ble_eq_true rfl) ?_
  show Ev _ _ _ _ _ 0 [some (.int (nI s)), none, none] [] (zz_SH, I, J) _
  refine Ev.run [(.iconst 0, 1), (.istore_n 1, 1), (.iconst 0, 1), (.istore_n 2, 1)] (pc' := 4) (L' := [some (.int (nI s)), some (.int (nI 0)), some (.int (nI 0))]) (S' := []) rfl (by decide +kernel) rfl ?_
  exact l_X7_bits I J s hs 13 0 (by omega) (by omega)

set_option maxRecDepth 100000 in
set_option maxHeartbeats 4000000 in
theorem l_X7_ln1 {sc : Nat × (Nat → Int32)} {d : Nat} (I : Nat → Nat → Int32) (J : Nat → Nat → Int64) (A : zA) (hV : MV (zVm I) A) (hW : WF A) (k u : Nat) (hk : k < aM A) (hu : u = bfd A k) (hout : ∀ I2 : Nat → Nat → Int32, zS5 I I2 → (∀ t, t < k → I2 376 t = nI (ned A t (aN A))) → I2 376 k = nI (ned A k (aN A)) → Ev sc (d + 7) 0 0 mX7_layNeeds 93 [some (.ref 359), some (.int (nI k)), none, none, none] [] (zz_SH, I2, J) (fun r σ => r = none ∧ ∃ I' : Nat → Nat → Int32, zS5 I I' ∧ (∀ t, t < aM A → I' 376 t = nI (ned A t (aN A))) ∧ σ = (zz_SH, I', J))) : ∀ (μ : Nat) (q : Nat) (I1 : Nat → Nat → Int32), aN A - q < μ → (q ≤ aN A) → (zS5 I I1) → (∀ t, t < k → I1 376 t = nI (ned A t (aN A))) → (I1 376 k = nI (ned A k q)) →  Ev sc (d + 7) 0 0 mX7_layNeeds 42 [some (.ref 359), some (.int (nI k)), none, some (.int (nI u)), some (.int (nI q))] [] (zz_SH, I1, J) (fun r σ => r = none ∧ ∃ I' : Nat → Nat → Int32, zS5 I I' ∧ (∀ t, t < aM A → I' 376 t = nI (ned A t (aN A))) ∧ σ = (zz_SH, I', J)) := by
  intro μ
  induction μ with
  | zero => intro q I1 hμ; exact absurd hμ (Nat.not_lt_zero _)
  | succ μ ih =>
    intro q I1 hμ hq hs hl ha
    have w1 := hW.1.1
    have w2 := hW.1.2.1
    have u1 := bfd_lt A k
    refine Ev.run [(.iload 4, 2), (.aload_n 0, 1), (.getfield 75, 3)] (pc' := 48) (L' := [some (.ref 359), some (.int (nI k)), none, some (.int (nI u)), some (.int (nI q))]) (S' := [.int (I1 359 2), .int (nI q)]) rfl (by decide +kernel) rfl ?_
    rw [show I1 359 2 = nI (aN A) from (hs.mv hV).1.1]
    refine Ev.icmp_ge (off := 45) (tgt := 93) (by decide +kernel) (by decide) (fun h48 => ?_) (fun h48 => ?_)
    · have h48 : q ≥ (aN A) := zz_bG_t (by omega) (by omega) h48
      have hqN : aN A = q := by omega
      refine Ev.weakL (L' := [some (.ref 359), some (.int (nI k)), none, none, none]) ⟨rfl, rfl, trivial⟩ ?_
      exact hout I1 hs hl (by rw [hqN]; exact ha)
    · have h48 : q < (aN A) := zz_bG_f (by omega) (by omega) h48
      refine Ev.run [(.iload_n 3, 1), (.iconst 4, 1)] (pc' := 53) (L' := [some (.ref 359), some (.int (nI k)), none, some (.int (nI u)), some (.int (nI q))]) (S' := [.int (nI 4), .int (nI u)]) rfl (by decide +kernel) rfl ?_
      refine Ev.icmp_ge (off := 40) (tgt := 93) (by decide +kernel) (by decide) (fun h53 => ?_) (fun h53 => ?_)
      · have h53 : u ≥ 4 := zz_bG_t (by omega) (by omega) h53
        refine Ev.weakL (L' := [some (.ref 359), some (.int (nI k)), none, none, none]) ⟨rfl, rfl, trivial⟩ ?_
        exact hout I1 hs hl (by rw [ha, ned_4 (by omega), ned_4 (by omega)])
      · have h53 : u < 4 := zz_bG_f (by omega) (by omega) h53
        refine Ev.run [(.aload_n 0, 1), (.getfield 58, 3), (.iload_n 1, 1), (.dup2, 1)] (pc' := 62) (L' := [some (.ref 359), some (.int (nI k)), none, some (.int (nI u)), some (.int (nI q))]) (S' := [.int (nI k), .ref 376, .int (nI k), .ref 376]) rfl (by decide +kernel) rfl ?_
        refine Ev.iald k (by decide +kernel) (rfl) (rfl) (by omega) (by first | decide | omega) ?_
        dsimp only
        rw [show I1 376 k = nI (ned A k q) from ha]
        refine Ev.run [(.aload_n 0, 1), (.iload_n 1, 1), (.iload 4, 2)] (pc' := 67) (L' := [some (.ref 359), some (.int (nI k)), none, some (.int (nI u)), some (.int (nI q))]) (S' := [.int (nI q), .int (nI k), .ref 359, .int (nI (ned A k q)), .int (nI k), .ref 376]) rfl (by decide +kernel) rfl ?_
        refine Ev.callV0 mX7_matchOf [.int (nI k), .int (nI q)] [.int (nI (ned A k q)), .int (nI k), .ref 376] _ rfl lk_RX7_124 (by decide +kernel) (rfl) rfl rfl rfl (Nat.le_of_ble_eq_true rfl) (c_X7_matchOf I1 J A (hs.mv hV) hW k q hk (by omega)) ?_
        rintro _ _ ⟨rfl, I2, hs2, rfl⟩
        show Ev _ _ _ _ _ 70 [some (.ref 359), some (.int (nI k)), none, some (.int (nI u)), some (.int (nI q))] [.int (nI (mtc A k q)), .int (nI (ned A k q)), .int (nI k), .ref 376] (zz_SH, I2, J) _
        refine Ev.callS0 mX7_band [.int (nI (mtc A k q))] [.int (nI (ned A k q)), .int (nI k), .ref 376] _ rfl lk_RX7_137 (by decide +kernel) rfl (Nat.le_of_ble_eq_true rfl) (c_X7_band I2 J (mtc A k q) (by have := mtc_le A k q; omega)) ?_
        rintro _ _ ⟨rfl, rfl⟩
        have b9 := bnd_lt (mtc A k q)
        show Ev _ _ _ _ _ 73 [some (.ref 359), some (.int (nI k)), none, some (.int (nI u)), some (.int (nI q))] [.int (nI (bnd (mtc A k q))), .int (nI (ned A k q)), .int (nI k), .ref 376] (zz_SH, I2, J) _
        refine Ev.run [(.iload_n 3, 1)] (pc' := 74) (L' := [some (.ref 359), some (.int (nI k)), none, some (.int (nI u)), some (.int (nI q))]) (S' := [.int (nI u), .int (nI (bnd (mtc A k q))), .int (nI (ned A k q)), .int (nI k), .ref 376]) rfl (by decide +kernel) rfl ?_
        refine Ev.icmp_ne (off := 10) (tgt := 84) (by decide +kernel) (by decide) (fun h74 => ?_) (fun h74 => ?_)
        · have h74 : ¬ (bnd (mtc A k q)) = u := zz_bE_f (by omega) (by omega) h74
          refine Ev.run [(.iconst 0, 1), (.ior, 1)] (pc' := 86) (L' := [some (.ref 359), some (.int (nI k)), none, some (.int (nI u)), some (.int (nI q))]) (S' := [.int (nI (ned A k q) ||| nI 0), .int (nI k), .ref 376]) rfl (by decide +kernel) rfl ?_
          rw [zz_or (ned A k q) 0]
          refine Ev.iast k (by decide +kernel) (rfl) (rfl) (by omega) (by first | decide | omega) ?_
          dsimp only
          refine Ev.run [(.iinc 4 1, 3)] (pc' := 90) (L' := [some (.ref 359), some (.int (nI k)), none, some (.int (nI u)), some (.int (nI q + 1))]) (S' := []) rfl (by decide +kernel) rfl ?_
          rw [nI_1 q]
          refine Ev.goto (off := (-48)) (tgt := 42) (by decide +kernel) (by decide) ?_
          refine ih (q + 1) _ (by omega) (by omega) ((hs.tr hs2.s2.s5).tr (zS5.up I2 k _)) (fun t ht => ?_) ?_
          · rw [zz_up_eq, zz_upn (by omega), hs2 376 (by decide)]; exact hl t ht
          · rw [zz_up_eq, zz_ups, ned, if_neg (by omega), Nat.or_zero]
        · have h74 : (bnd (mtc A k q)) = u := zz_bE_t (by omega) (by omega) h74
          refine Ev.run [(.iconst 1, 1), (.iload 4, 2), (.ishl, 1)] (pc' := 81) (L' := [some (.ref 359), some (.int (nI k)), none, some (.int (nI u)), some (.int (nI q))]) (S' := [.int ((nI 1) <<< (nI q &&& 31)), .int (nI (ned A k q)), .int (nI k), .ref 376]) rfl (by decide +kernel) rfl ?_
          rw [zz_shl1 (k := q) (by omega)]
          refine Ev.goto (off := 4) (tgt := 85) (by decide +kernel) (by decide) ?_
          refine Ev.run [(.ior, 1)] (pc' := 86) (L' := [some (.ref 359), some (.int (nI k)), none, some (.int (nI u)), some (.int (nI q))]) (S' := [.int (nI (ned A k q) ||| nI (2 ^ q)), .int (nI k), .ref 376]) rfl (by decide +kernel) rfl ?_
          rw [zz_or (ned A k q) (2 ^ q)]
          refine Ev.iast k (by decide +kernel) (rfl) (rfl) (by omega) (by first | decide | omega) ?_
          dsimp only
          refine Ev.run [(.iinc 4 1, 3)] (pc' := 90) (L' := [some (.ref 359), some (.int (nI k)), none, some (.int (nI u)), some (.int (nI q + 1))]) (S' := []) rfl (by decide +kernel) rfl ?_
          rw [nI_1 q]
          refine Ev.goto (off := (-48)) (tgt := 42) (by decide +kernel) (by decide) ?_
          refine ih (q + 1) _ (by omega) (by omega) ((hs.tr hs2.s2.s5).tr (zS5.up I2 k _)) (fun t ht => ?_) ?_
          · rw [zz_up_eq, zz_upn (by omega), hs2 376 (by decide)]; exact hl t ht
          · rw [zz_up_eq, zz_ups, ned, if_pos (by omega)]

set_option maxRecDepth 100000 in
set_option maxHeartbeats 4000000 in
theorem l_X7_ln2 {sc : Nat × (Nat → Int32)} {d : Nat} (I : Nat → Nat → Int32) (J : Nat → Nat → Int64) (A : zA) (hV : MV (zVm I) A) (hW : WF A) : ∀ (μ : Nat) (k : Nat) (I1 : Nat → Nat → Int32), aM A - k < μ → (k ≤ aM A) → (zS5 I I1) → (∀ t, t < k → I1 376 t = nI (ned A t (aN A))) →  Ev sc (d + 7) 0 0 mX7_layNeeds 2 [some (.ref 359), some (.int (nI k)), none, none, none] [] (zz_SH, I1, J) (fun r σ => r = none ∧ ∃ I' : Nat → Nat → Int32, zS5 I I' ∧ (∀ t, t < aM A → I' 376 t = nI (ned A t (aN A))) ∧ σ = (zz_SH, I', J)) := by
  intro μ
  induction μ with
  | zero => intro k I1 hμ; exact absurd hμ (Nat.not_lt_zero _)
  | succ μ ih =>
    intro k I1 hμ hk hs hl
    have w1 := hW.1.1
    have w2 := hW.1.2.1
    refine Ev.run [(.iload_n 1, 1), (.aload_n 0, 1), (.getfield 83, 3)] (pc' := 7) (L' := [some (.ref 359), some (.int (nI k)), none, none, none]) (S' := [.int (I1 359 8), .int (nI k)]) rfl (by decide +kernel) rfl ?_
    rw [show I1 359 8 = nI (aM A) from (hs.mv hV).1.2.1]
    refine Ev.icmp_ge (off := 92) (tgt := 99) (by decide +kernel) (by decide) (fun h7 => ?_) (fun h7 => ?_)
    · have h7 : k ≥ (aM A) := zz_bG_t (by omega) (by omega) h7
      have hkM : aM A = k := by omega
      exact Ev.vret rfl (by decide +kernel) (⟨rfl, I1, hs, fun t ht => hl t (by omega), rfl⟩)
    · have h7 : k < (aM A) := zz_bG_f (by omega) (by omega) h7
      refine Ev.run [(.aload_n 0, 1), (.iload_n 1, 1)] (pc' := 12) (L' := [some (.ref 359), some (.int (nI k)), none, none, none]) (S' := [.int (nI k), .ref 359]) rfl (by decide +kernel) rfl ?_
      refine Ev.callV0 mX7_foundOf [.int (nI k)] [] _ rfl lk_RX7_130 (by decide +kernel) (rfl) rfl rfl rfl (Nat.le_of_ble_eq_true rfl) (c_X7_foundOf I1 J A (hs.mv hV) hW k (by omega)) ?_
      rintro _ _ ⟨rfl, I2, hs2, hf, rfl⟩
      rcases hx : fnd A k (aN A) with _ | ⟨p9, v9⟩
      all_goals rw [hx] at hf
      · show Ev _ _ _ _ _ 15 [some (.ref 359), some (.int (nI k)), none, none, none] [.int ((-6))] (zz_SH, I2, J) _
        refine Ev.run [(.istore_n 2, 1), (.iload_n 2, 1)] (pc' := 17) (L' := [some (.ref 359), some (.int (nI k)), some (.int ((-6))), none, none]) (S' := [.int ((-6))]) rfl (by decide +kernel) rfl ?_
        refine Ev.if_ge (off := 7) (tgt := 24) (by decide +kernel) (by decide) (fun h17 => absurd h17 (by decide)) (fun h17 => ?_)
        refine Ev.run [(.iconst 4, 1)] (pc' := 21) (L' := [some (.ref 359), some (.int (nI k)), some (.int ((-6))), none, none]) (S' := [.int (nI 4)]) rfl (by decide +kernel) rfl ?_
        refine Ev.goto (off := 10) (tgt := 31) (by decide +kernel) (by decide) ?_
        refine Ev.run [(.istore_n 3, 1), (.aload_n 0, 1), (.getfield 58, 3), (.iload_n 1, 1), (.iconst 0, 1)] (pc' := 38) (L' := [some (.ref 359), some (.int (nI k)), some (.int ((-6))), some (.int (nI 4)), none]) (S' := [.int (nI 0), .int (nI k), .ref 376]) rfl (by decide +kernel) rfl ?_
        refine Ev.iast k (by decide +kernel) (rfl) (rfl) (by omega) (by first | decide | omega) ?_
        dsimp only
        refine Ev.run [(.iconst 0, 1), (.istore 4, 2)] (pc' := 42) (L' := [some (.ref 359), some (.int (nI k)), some (.int ((-6))), some (.int (nI 4)), some (.int (nI 0))]) (S' := []) rfl (by decide +kernel) rfl ?_
        refine Ev.weakL (L' := [some (.ref 359), some (.int (nI k)), none, some (.int (nI 4)), some (.int (nI 0))]) ⟨rfl, rfl, rfl, rfl, trivial⟩ ?_
        refine l_X7_ln1 I J A hV hW k 4 (by omega) (by rw [bfd, hx]) ?_ (aN A + 1) 0 _ (by omega) (by omega) ((hs.tr hs2.s5).tr (zS5.up I2 k _)) (fun t ht => ?_) ?_
        rotate_left
        · rw [zz_up_eq, zz_upn (by omega), hs2.1 376 (by decide) (by decide)]; exact hl t ht
        · rw [zz_up_eq, zz_ups]; rfl
        intro I3 hs3 hl3 ha3
        show Ev _ _ _ _ _ 93 [some (.ref 359), some (.int (nI k)), none, none, none] [] (zz_SH, I3, J) _
        refine Ev.run [(.iinc 1 1, 3)] (pc' := 96) (L' := [some (.ref 359), some (.int (nI k + 1)), none, none, none]) (S' := []) rfl (by decide +kernel) rfl ?_
        rw [nI_1 k]
        refine Ev.goto (off := (-94)) (tgt := 2) (by decide +kernel) (by decide) ?_
        refine ih (k + 1) I3 (by omega) (by omega) hs3 (fun t ht => ?_)
        by_cases e : t = k
        · subst e; exact ha3
        · exact hl3 t (by omega)
      · show Ev _ _ _ _ _ 15 [some (.ref 359), some (.int (nI k)), none, none, none] [.int (nI p9)] (zz_SH, I2, J) _
        obtain ⟨hp9, hv9⟩ := fnd_ok A k _ p9 v9 hx
        have hm9 := mtc_le A k p9
        refine Ev.run [(.istore_n 2, 1), (.iload_n 2, 1)] (pc' := 17) (L' := [some (.ref 359), some (.int (nI k)), some (.int (nI p9)), none, none]) (S' := [.int (nI p9)]) rfl (by decide +kernel) rfl ?_
        refine Ev.if_ge (off := 7) (tgt := 24) (by decide +kernel) (by decide) (fun h17 => ?_) (fun h17 => ?_)
        · have h17 : p9 ≥ 0 := zz_bG_t (by omega) (by omega) h17
          refine Ev.run [(.aload_n 0, 1), (.getfield 127, 3)] (pc' := 28) (L' := [some (.ref 359), some (.int (nI k)), some (.int (nI p9)), none, none]) (S' := [.int (I2 359 17)]) rfl (by decide +kernel) rfl ?_
          rw [show I2 359 17 = nI v9 from hf]
          refine Ev.callS0 mX7_band [.int (nI v9)] [] _ rfl lk_RX7_137 (by decide +kernel) rfl (Nat.le_of_ble_eq_true rfl) (c_X7_band I2 J v9 (by omega)) ?_
          rintro _ _ ⟨rfl, rfl⟩
          show Ev _ _ _ _ _ 31 [some (.ref 359), some (.int (nI k)), some (.int (nI p9)), none, none] [.int (nI (bnd v9))] (zz_SH, I2, J) _
          refine Ev.run [(.istore_n 3, 1), (.aload_n 0, 1), (.getfield 58, 3), (.iload_n 1, 1), (.iconst 0, 1)] (pc' := 38) (L' := [some (.ref 359), some (.int (nI k)), some (.int (nI p9)), some (.int (nI (bnd v9))), none]) (S' := [.int (nI 0), .int (nI k), .ref 376]) rfl (by decide +kernel) rfl ?_
          refine Ev.iast k (by decide +kernel) (rfl) (rfl) (by omega) (by first | decide | omega) ?_
          dsimp only
          refine Ev.run [(.iconst 0, 1), (.istore 4, 2)] (pc' := 42) (L' := [some (.ref 359), some (.int (nI k)), some (.int (nI p9)), some (.int (nI (bnd v9))), some (.int (nI 0))]) (S' := []) rfl (by decide +kernel) rfl ?_
          refine Ev.weakL (L' := [some (.ref 359), some (.int (nI k)), none, some (.int (nI (bnd v9))), some (.int (nI 0))]) ⟨rfl, rfl, rfl, rfl, trivial⟩ ?_
          refine l_X7_ln1 I J A hV hW k (bnd v9) (by omega) (by rw [bfd, hx]) ?_ (aN A + 1) 0 _ (by omega) (by omega) ((hs.tr hs2.s5).tr (zS5.up I2 k _)) (fun t ht => ?_) ?_
          rotate_left
          · rw [zz_up_eq, zz_upn (by omega), hs2.1 376 (by decide) (by decide)]; exact hl t ht
          · rw [zz_up_eq, zz_ups]; rfl
          intro I3 hs3 hl3 ha3
          show Ev _ _ _ _ _ 93 [some (.ref 359), some (.int (nI k)), none, none, none] [] (zz_SH, I3, J) _
          refine Ev.run [(.iinc 1 1, 3)] (pc' := 96) (L' := [some (.ref 359), some (.int (nI k + 1)), none, none, none]) (S' := []) rfl (by decide +kernel) rfl ?_
          rw [nI_1 k]
          refine Ev.goto (off := (-94)) (tgt := 2) (by decide +kernel) (by decide) ?_
          refine ih (k + 1) I3 (by omega) (by omega) hs3 (fun t ht => ?_)
          by_cases e : t = k
          · subst e; exact ha3
          · exact hl3 t (by omega)
        · have h17 : p9 < 0 := zz_bG_f (by omega) (by omega) h17
          exfalso; omega

set_option maxRecDepth 100000 in
set_option maxHeartbeats 4000000 in
theorem c_X7_layNeeds {sc : Nat × (Nat → Int32)} {d : Nat} (I : Nat → Nat → Int32) (J : Nat → Nat → Int64) (A : zA) (hV : MV (zVm I) A) (hW : WF A) : EvM sc (d + 7) 0 0 mX7_layNeeds [.ref 359] (zz_SH, I, J) (fun r σ => r = none ∧ ∃ I' : Nat → Nat → Int32, zS5 I I' ∧ (∀ t, t < aM A → I' 376 t = nI (ned A t (aN A))) ∧ σ = (zz_SH, I', J)) := by
  have w1 := hW.1.1
  have w2 := hW.1.2.1
  refine EvM.of (by decide) rfl (Nat.le_of_ble_eq_true rfl) ?_
  show Ev _ _ _ _ _ 0 [some (.ref 359), none, none, none, none] [] (zz_SH, I, J) _
  refine Ev.run [(.iconst 0, 1), (.istore_n 1, 1)] (pc' := 2) (L' := [some (.ref 359), some (.int (nI 0)), none, none, none]) (S' := []) rfl (by decide +kernel) rfl ?_
  exact l_X7_ln2 I J A hV hW (aM A + 1) 0 I (by omega) (by omega) (zS5.rf I) (fun t ht => absurd ht (Nat.not_lt_zero t))

set_option maxRecDepth 100000 in
set_option maxHeartbeats 4000000 in
theorem l_X7_kp2 {sc : Nat × (Nat → Int32)} {d : Nat} (I : Nat → Nat → Int32) (J : Nat → Nat → Int64) (A : zA) (hV : MV (zVm I) A) (hW : WF A) (I1 : Nat → Nat → Int32) (hs1 : zS5 I I1) (hn1 : ∀ t, t < aM A → I1 376 t = nI (ned A t (aN A))) (s : Nat) (hs : s < 4096) (x : Int32) (hout1 : en A s (aM A) = true → Ev sc (d + 8) 0 0 mX7_kept 86 [some (.ref 359), some (.int x), some (.int (nI s)), some (.int (nI 1)), none] [] (zz_SH, I1, J) (fun r σ => r = some (.int (ob (kps A (2 ^ aN A)))) ∧ ∃ I' : Nat → Nat → Int32, zSc I I' ∧ σ = (zz_SH, I', J))) (hout0 : en A s (aM A) = false → Ev sc (d + 8) 0 0 mX7_kept 86 [some (.ref 359), some (.int x), some (.int (nI s)), some (.int (nI 0)), none] [] (zz_SH, I1, J) (fun r σ => r = some (.int (ob (kps A (2 ^ aN A)))) ∧ ∃ I' : Nat → Nat → Int32, zSc I I' ∧ σ = (zz_SH, I', J))) : ∀ (μ : Nat) (k : Nat), aM A - k < μ → (k ≤ aM A) → (∀ t, t < k → ned A t (aN A) = 0 ∨ ¬ (ned A t (aN A) &&& s) = 0) →  Ev sc (d + 8) 0 0 mX7_kept 39 [some (.ref 359), some (.int x), some (.int (nI s)), some (.int (nI 1)), some (.int (nI k))] [] (zz_SH, I1, J) (fun r σ => r = some (.int (ob (kps A (2 ^ aN A)))) ∧ ∃ I' : Nat → Nat → Int32, zSc I I' ∧ σ = (zz_SH, I', J)) := by
  intro μ
  induction μ with
  | zero => intro k hμ; exact absurd hμ (Nat.not_lt_zero _)
  | succ μ ih =>
    intro k hμ hk hal
    have w1 := hW.1.1
    have w2 := hW.1.2.1
    have hp : 2 ^ aN A ≤ 4096 := Nat.le_trans (zz_pw2 w1) (by decide)
    have q6 : ned A k (aN A) < 4096 := Nat.lt_of_lt_of_le (ned_lt A k _) hp
    refine Ev.run [(.iload 4, 2), (.aload_n 0, 1), (.getfield 83, 3)] (pc' := 45) (L' := [some (.ref 359), some (.int x), some (.int (nI s)), some (.int (nI 1)), some (.int (nI k))]) (S' := [.int (I1 359 8), .int (nI k)]) rfl (by decide +kernel) rfl ?_
    rw [show I1 359 8 = nI (aM A) from (hs1.mv hV).1.2.1]
    refine Ev.icmp_ge (off := 41) (tgt := 86) (by decide +kernel) (by decide) (fun h45 => ?_) (fun h45 => ?_)
    · have h45 : k ≥ (aM A) := zz_bG_t (by omega) (by omega) h45
      refine Ev.weakL (L' := [some (.ref 359), some (.int x), some (.int (nI s)), some (.int (nI 1)), none]) ⟨rfl, rfl, rfl, rfl, trivial⟩ ?_
      exact hout1 ((en_iff _).mpr (fun t ht => hal t (by omega)))
    · have h45 : k < (aM A) := zz_bG_f (by omega) (by omega) h45
      refine Ev.run [(.iload_n 3, 1)] (pc' := 49) (L' := [some (.ref 359), some (.int x), some (.int (nI s)), some (.int (nI 1)), some (.int (nI k))]) (S' := [.int (nI 1)]) rfl (by decide +kernel) rfl ?_
      refine Ev.if_eq (off := 37) (tgt := 86) (by decide +kernel) (by decide) (fun h49 => absurd h49 (by decide)) (fun h49 => ?_)
      refine Ev.run [(.aload_n 0, 1), (.getfield 58, 3), (.iload 4, 2)] (pc' := 58) (L' := [some (.ref 359), some (.int x), some (.int (nI s)), some (.int (nI 1)), some (.int (nI k))]) (S' := [.int (nI k), .ref 376]) rfl (by decide +kernel) rfl ?_
      refine Ev.iald k (by decide +kernel) (rfl) (rfl) (by omega) (by first | decide | omega) ?_
      dsimp only
      rw [show I1 376 k = nI (ned A k (aN A)) from hn1 k (by omega)]
      refine Ev.if_eq (off := 15) (tgt := 74) (by decide +kernel) (by decide) (fun h59 => ?_) (fun h59 => ?_)
      · have h59 : (ned A k (aN A)) = 0 := zz_bE_t (by omega) (by omega) h59
        refine Ev.run [(.iconst 1, 1)] (pc' := 75) (L' := [some (.ref 359), some (.int x), some (.int (nI s)), some (.int (nI 1)), some (.int (nI k))]) (S' := [.int (nI 1)]) rfl (by decide +kernel) rfl ?_
        refine Ev.goto (off := 4) (tgt := 79) (by decide +kernel) (by decide) ?_
        refine Ev.run [(.istore_n 3, 1), (.iinc 4 1, 3)] (pc' := 83) (L' := [some (.ref 359), some (.int x), some (.int (nI s)), some (.int (nI 1)), some (.int (nI k + 1))]) (S' := []) rfl (by decide +kernel) rfl ?_
        rw [nI_1 k]
        refine Ev.goto (off := (-44)) (tgt := 39) (by decide +kernel) (by decide) ?_
        exact ih (k + 1) (by omega) (by omega) (lt_s hal (Or.inl h59))
      · have h59 : ¬ (ned A k (aN A)) = 0 := zz_bE_f (by omega) (by omega) h59
        refine Ev.run [(.aload_n 0, 1), (.getfield 58, 3), (.iload 4, 2)] (pc' := 68) (L' := [some (.ref 359), some (.int x), some (.int (nI s)), some (.int (nI 1)), some (.int (nI k))]) (S' := [.int (nI k), .ref 376]) rfl (by decide +kernel) rfl ?_
        refine Ev.iald k (by decide +kernel) (rfl) (rfl) (by omega) (by first | decide | omega) ?_
        dsimp only
        rw [show I1 376 k = nI (ned A k (aN A)) from hn1 k (by omega)]
        refine Ev.run [(.iload_n 2, 1)] (pc' := 70) (L' := [some (.ref 359), some (.int x), some (.int (nI s)), some (.int (nI 1)), some (.int (nI k))]) (S' := [.int (nI s), .int (nI (ned A k (aN A)))]) rfl (by decide +kernel) rfl ?_
        have q5 : ned A k (aN A) &&& s ≤ s := Nat.and_le_right
        refine Ev.run [(.iand, 1)] (pc' := 71) (L' := [some (.ref 359), some (.int x), some (.int (nI s)), some (.int (nI 1)), some (.int (nI k))]) (S' := [.int (nI (ned A k (aN A)) &&& nI s)]) rfl (by decide +kernel) rfl ?_
        rw [zz_and (ned A k (aN A)) s]
        refine Ev.if_eq (off := 7) (tgt := 78) (by decide +kernel) (by decide) (fun h71 => ?_) (fun h71 => ?_)
        · have h71 : ((ned A k (aN A)) &&& s) = 0 := zz_bE_t (by omega) (by omega) h71
          refine Ev.run [(.iconst 0, 1), (.istore_n 3, 1), (.iinc 4 1, 3)] (pc' := 83) (L' := [some (.ref 359), some (.int x), some (.int (nI s)), some (.int (nI 0)), some (.int (nI k + 1))]) (S' := []) rfl (by decide +kernel) rfl ?_
          rw [nI_1 k]
          refine Ev.goto (off := (-44)) (tgt := 39) (by decide +kernel) (by decide) ?_
          refine Ev.run [(.iload 4, 2), (.aload_n 0, 1), (.getfield 83, 3)] (pc' := 45) (L' := [some (.ref 359), some (.int x), some (.int (nI s)), some (.int (nI 0)), some (.int (nI (k + 1)))]) (S' := [.int (I1 359 8), .int (nI (k + 1))]) rfl (by decide +kernel) rfl ?_
          rw [show I1 359 8 = nI (aM A) from (hs1.mv hV).1.2.1]
          refine Ev.icmp_ge (off := 41) (tgt := 86) (by decide +kernel) (by decide) (fun g45 => ?_) (fun g45 => ?_)
          · have g45 : (k + 1) ≥ (aM A) := zz_bG_t (by omega) (by omega) g45
            refine Ev.weakL (L' := [some (.ref 359), some (.int x), some (.int (nI s)), some (.int (nI 0)), none]) ⟨rfl, rfl, rfl, rfl, trivial⟩ ?_
            exact hout0 (by cases hq : en A s (aM A) with | false => rfl | true => exact absurd ((en_iff _).mp hq k (by omega)) (fun q => q.elim h59 (fun q => q h71)))
          · have g45 : (k + 1) < (aM A) := zz_bG_f (by omega) (by omega) g45
            refine Ev.run [(.iload_n 3, 1)] (pc' := 49) (L' := [some (.ref 359), some (.int x), some (.int (nI s)), some (.int (nI 0)), some (.int (nI (k + 1)))]) (S' := [.int (nI 0)]) rfl (by decide +kernel) rfl ?_
            refine Ev.if_eq (off := 37) (tgt := 86) (by decide +kernel) (by decide) (fun h49 => ?_) (fun h49 => absurd h49 (by decide))
            refine Ev.weakL (L' := [some (.ref 359), some (.int x), some (.int (nI s)), some (.int (nI 0)), none]) ⟨rfl, rfl, rfl, rfl, trivial⟩ ?_
            exact hout0 (by cases hq : en A s (aM A) with | false => rfl | true => exact absurd ((en_iff _).mp hq k (by omega)) (fun q => q.elim h59 (fun q => q h71)))
        · have h71 : ¬ ((ned A k (aN A)) &&& s) = 0 := zz_bE_f (by omega) (by omega) h71
          refine Ev.run [(.iconst 1, 1)] (pc' := 75) (L' := [some (.ref 359), some (.int x), some (.int (nI s)), some (.int (nI 1)), some (.int (nI k))]) (S' := [.int (nI 1)]) rfl (by decide +kernel) rfl ?_
          refine Ev.goto (off := 4) (tgt := 79) (by decide +kernel) (by decide) ?_
          refine Ev.run [(.istore_n 3, 1), (.iinc 4 1, 3)] (pc' := 83) (L' := [some (.ref 359), some (.int x), some (.int (nI s)), some (.int (nI 1)), some (.int (nI k + 1))]) (S' := []) rfl (by decide +kernel) rfl ?_
          rw [nI_1 k]
          refine Ev.goto (off := (-44)) (tgt := 39) (by decide +kernel) (by decide) ?_
          exact ih (k + 1) (by omega) (by omega) (lt_s hal (Or.inr h71))

set_option maxRecDepth 100000 in
set_option maxHeartbeats 4000000 in
theorem l_X7_kp1 {sc : Nat × (Nat → Int32)} {d : Nat} (I : Nat → Nat → Int32) (J : Nat → Nat → Int64) (A : zA) (hV : MV (zVm I) A) (hW : WF A) (I1 : Nat → Nat → Int32) (hs1 : zS5 I I1) (hn1 : ∀ t, t < aM A → I1 376 t = nI (ned A t (aN A))) : ∀ (μ : Nat) (s : Nat) (x : Option Nat), 2 ^ aN A - s < μ → (s ≤ 2 ^ aN A) → (x = kps A s) →  Ev sc (d + 8) 0 0 mX7_kept 9 [some (.ref 359), some (.int (ob x)), some (.int (nI s)), none, none] [] (zz_SH, I1, J) (fun r σ => r = some (.int (ob (kps A (2 ^ aN A)))) ∧ ∃ I' : Nat → Nat → Int32, zSc I I' ∧ σ = (zz_SH, I', J)) := by
  intro μ
  induction μ with
  | zero => intro s x hμ; exact absurd hμ (Nat.not_lt_zero _)
  | succ μ ih =>
    intro s x hμ hs hx0
    have w1 := hW.1.1
    have w2 := hW.1.2.1
    have hp : 2 ^ aN A ≤ 4096 := Nat.le_trans (zz_pw2 w1) (by decide)
    subst hx0
    rcases hx : kps A s with _ | f
    · show Ev _ _ _ _ _ 9 [some (.ref 359), some (.int ((-6))), some (.int (nI s)), none, none] [] (zz_SH, I1, J) _
      refine Ev.run [(.iload_n 2, 1), (.iconst 1, 1), (.aload_n 0, 1), (.getfield 75, 3)] (pc' := 15) (L' := [some (.ref 359), some (.int ((-6))), some (.int (nI s)), none, none]) (S' := [.int (I1 359 2), .int (nI 1), .int (nI s)]) rfl (by decide +kernel) rfl ?_
      rw [show I1 359 2 = nI (aN A) from (hs1.mv hV).1.1]
      refine Ev.run [(.ishl, 1)] (pc' := 16) (L' := [some (.ref 359), some (.int ((-6))), some (.int (nI s)), none, none]) (S' := [.int ((nI 1) <<< (nI (aN A) &&& 31)), .int (nI s)]) rfl (by decide +kernel) rfl ?_
      rw [zz_shl1 (k := (aN A)) (by omega)]
      refine Ev.icmp_ge (off := 86) (tgt := 102) (by decide +kernel) (by decide) (fun h16 => ?_) (fun h16 => ?_)
      · have h16 : s ≥ (2 ^ (aN A)) := zz_bG_t (by omega) (by omega) h16
        have hsN : 2 ^ aN A = s := by omega
        refine Ev.run [(.iload_n 1, 1)] (pc' := 103) (L' := [some (.ref 359), some (.int ((-6))), some (.int (nI s)), none, none]) (S' := [.int ((-6))]) rfl (by decide +kernel) rfl ?_
        exact Ev.iret rfl (by decide +kernel) (⟨by rw [hsN, hx]; rfl, I1, hs1.sc, rfl⟩)
      · have h16 : s < (2 ^ (aN A)) := zz_bG_f (by omega) (by omega) h16
        refine Ev.run [(.iload_n 1, 1)] (pc' := 20) (L' := [some (.ref 359), some (.int ((-6))), some (.int (nI s)), none, none]) (S' := [.int ((-6))]) rfl (by decide +kernel) rfl ?_
        refine Ev.if_lt (off := 14) (tgt := 34) (by decide +kernel) (by decide) (fun h20 => ?_) (fun h20 => absurd h20 (by decide))
        refine Ev.run [(.iconst 1, 1), (.istore_n 3, 1), (.iconst 0, 1), (.istore 4, 2)] (pc' := 39) (L' := [some (.ref 359), some (.int ((-6))), some (.int (nI s)), some (.int (nI 1)), some (.int (nI 0))]) (S' := []) rfl (by decide +kernel) rfl ?_
        refine l_X7_kp2 I J A hV hW I1 hs1 hn1 s (by omega) (-6) ?_ ?_ (aM A + 1) 0 (by omega) (by omega) (fun t ht => absurd ht (Nat.not_lt_zero t))
        · intro hen
          show Ev _ _ _ _ _ 86 [some (.ref 359), some (.int ((-6))), some (.int (nI s)), some (.int (nI 1)), none] [] (zz_SH, I1, J) _
          refine Ev.run [(.iload_n 3, 1)] (pc' := 87) (L' := [some (.ref 359), some (.int ((-6))), some (.int (nI s)), some (.int (nI 1)), none]) (S' := [.int (nI 1)]) rfl (by decide +kernel) rfl ?_
          refine Ev.if_eq (off := 7) (tgt := 94) (by decide +kernel) (by decide) (fun h87 => absurd h87 (by decide)) (fun h87 => ?_)
          refine Ev.run [(.iload_n 2, 1)] (pc' := 91) (L' := [some (.ref 359), some (.int ((-6))), some (.int (nI s)), some (.int (nI 1)), none]) (S' := [.int (nI s)]) rfl (by decide +kernel) rfl ?_
          refine Ev.goto (off := 4) (tgt := 95) (by decide +kernel) (by decide) ?_
          refine Ev.run [(.istore_n 1, 1), (.iinc 2 1, 3)] (pc' := 99) (L' := [some (.ref 359), some (.int (nI s)), some (.int (nI s + 1)), some (.int (nI 1)), none]) (S' := []) rfl (by decide +kernel) rfl ?_
          rw [nI_1 s]
          refine Ev.goto (off := (-90)) (tgt := 9) (by decide +kernel) (by decide) ?_
          refine Ev.weakL (L' := [some (.ref 359), some (.int (nI s)), some (.int (nI (s + 1))), none, none]) ⟨rfl, rfl, rfl, trivial⟩ ?_
          have e9 : kps A (s + 1) = some s := by rw [kps, hx]; exact if_pos hen
          exact ih (s + 1) (some s) (by omega) (by omega) e9.symm
        · intro hen
          show Ev _ _ _ _ _ 86 [some (.ref 359), some (.int ((-6))), some (.int (nI s)), some (.int (nI 0)), none] [] (zz_SH, I1, J) _
          refine Ev.run [(.iload_n 3, 1)] (pc' := 87) (L' := [some (.ref 359), some (.int ((-6))), some (.int (nI s)), some (.int (nI 0)), none]) (S' := [.int (nI 0)]) rfl (by decide +kernel) rfl ?_
          refine Ev.if_eq (off := 7) (tgt := 94) (by decide +kernel) (by decide) (fun h87 => ?_) (fun h87 => absurd h87 (by decide))
          refine Ev.run [(.iload_n 1, 1), (.istore_n 1, 1), (.iinc 2 1, 3)] (pc' := 99) (L' := [some (.ref 359), some (.int ((-6))), some (.int (nI s + 1)), some (.int (nI 0)), none]) (S' := []) rfl (by decide +kernel) rfl ?_
          rw [nI_1 s]
          refine Ev.goto (off := (-90)) (tgt := 9) (by decide +kernel) (by decide) ?_
          refine Ev.weakL (L' := [some (.ref 359), some (.int ((-6))), some (.int (nI (s + 1))), none, none]) ⟨rfl, rfl, rfl, trivial⟩ ?_
          have e9 : kps A (s + 1) = none := by rw [kps, hx]; exact if_neg (fun q => by rw [hen] at q; simp at q)
          exact ih (s + 1) _ (by omega) (by omega) e9.symm
    · have hf := kps_lt s f hx
      show Ev _ _ _ _ _ 9 [some (.ref 359), some (.int (nI f)), some (.int (nI s)), none, none] [] (zz_SH, I1, J) _
      refine Ev.run [(.iload_n 2, 1), (.iconst 1, 1), (.aload_n 0, 1), (.getfield 75, 3)] (pc' := 15) (L' := [some (.ref 359), some (.int (nI f)), some (.int (nI s)), none, none]) (S' := [.int (I1 359 2), .int (nI 1), .int (nI s)]) rfl (by decide +kernel) rfl ?_
      rw [show I1 359 2 = nI (aN A) from (hs1.mv hV).1.1]
      refine Ev.run [(.ishl, 1)] (pc' := 16) (L' := [some (.ref 359), some (.int (nI f)), some (.int (nI s)), none, none]) (S' := [.int ((nI 1) <<< (nI (aN A) &&& 31)), .int (nI s)]) rfl (by decide +kernel) rfl ?_
      rw [zz_shl1 (k := (aN A)) (by omega)]
      refine Ev.icmp_ge (off := 86) (tgt := 102) (by decide +kernel) (by decide) (fun h16 => ?_) (fun h16 => ?_)
      · have h16 : s ≥ (2 ^ (aN A)) := zz_bG_t (by omega) (by omega) h16
        have hsN : 2 ^ aN A = s := by omega
        refine Ev.run [(.iload_n 1, 1)] (pc' := 103) (L' := [some (.ref 359), some (.int (nI f)), some (.int (nI s)), none, none]) (S' := [.int (nI f)]) rfl (by decide +kernel) rfl ?_
        exact Ev.iret rfl (by decide +kernel) (⟨by rw [hsN, hx]; rfl, I1, hs1.sc, rfl⟩)
      · have h16 : s < (2 ^ (aN A)) := zz_bG_f (by omega) (by omega) h16
        refine Ev.run [(.iload_n 1, 1)] (pc' := 20) (L' := [some (.ref 359), some (.int (nI f)), some (.int (nI s)), none, none]) (S' := [.int (nI f)]) rfl (by decide +kernel) rfl ?_
        refine Ev.if_lt (off := 14) (tgt := 34) (by decide +kernel) (by decide) (fun h20 => ?_) (fun h20 => ?_)
        · have h20 : f < 0 := zz_bL_t (by omega) (by omega) h20
          exfalso; omega
        · have h20 : f ≥ 0 := zz_bL_f (by omega) (by omega) h20
          refine Ev.run [(.iload_n 2, 1)] (pc' := 24) (L' := [some (.ref 359), some (.int (nI f)), some (.int (nI s)), none, none]) (S' := [.int (nI s)]) rfl (by decide +kernel) rfl ?_
          refine Ev.callS0 mX7_bits [.int (nI s)] [] _ rfl lk_RX7_159 (by decide +kernel) rfl (Nat.le_of_ble_eq_true rfl) (c_X7_bits I1 J s (by omega)) ?_
          rintro _ _ ⟨rfl, rfl⟩
          have q_s := bcn_le s 12
          show Ev _ _ _ _ _ 27 [some (.ref 359), some (.int (nI f)), some (.int (nI s)), none, none] [.int (nI (bcn s 12))] (zz_SH, I1, J) _
          refine Ev.run [(.iload_n 1, 1)] (pc' := 28) (L' := [some (.ref 359), some (.int (nI f)), some (.int (nI s)), none, none]) (S' := [.int (nI f), .int (nI (bcn s 12))]) rfl (by decide +kernel) rfl ?_
          refine Ev.callS0 mX7_bits [.int (nI f)] [.int (nI (bcn s 12))] _ rfl lk_RX7_159 (by decide +kernel) rfl (Nat.le_of_ble_eq_true rfl) (c_X7_bits I1 J f (by omega)) ?_
          rintro _ _ ⟨rfl, rfl⟩
          have q_f := bcn_le f 12
          show Ev _ _ _ _ _ 31 [some (.ref 359), some (.int (nI f)), some (.int (nI s)), none, none] [.int (nI (bcn f 12)), .int (nI (bcn s 12))] (zz_SH, I1, J) _
          refine Ev.icmp_ge (off := 65) (tgt := 96) (by decide +kernel) (by decide) (fun h31 => ?_) (fun h31 => ?_)
          · have h31 : (bcn s 12) ≥ (bcn f 12) := zz_bG_t (by omega) (by omega) h31
            refine Ev.run [(.iinc 2 1, 3)] (pc' := 99) (L' := [some (.ref 359), some (.int (nI f)), some (.int (nI s + 1)), none, none]) (S' := []) rfl (by decide +kernel) rfl ?_
            rw [nI_1 s]
            refine Ev.goto (off := (-90)) (tgt := 9) (by decide +kernel) (by decide) ?_
            have e9 : kps A (s + 1) = some f := by rw [kps, hx]; exact if_neg (fun q => absurd q.1 (by omega))
            exact ih (s + 1) _ (by omega) (by omega) e9.symm
          · have h31 : (bcn s 12) < (bcn f 12) := zz_bG_f (by omega) (by omega) h31
            refine Ev.run [(.iconst 1, 1), (.istore_n 3, 1), (.iconst 0, 1), (.istore 4, 2)] (pc' := 39) (L' := [some (.ref 359), some (.int (nI f)), some (.int (nI s)), some (.int (nI 1)), some (.int (nI 0))]) (S' := []) rfl (by decide +kernel) rfl ?_
            refine l_X7_kp2 I J A hV hW I1 hs1 hn1 s (by omega) (nI f) ?_ ?_ (aM A + 1) 0 (by omega) (by omega) (fun t ht => absurd ht (Nat.not_lt_zero t))
            · intro hen
              show Ev _ _ _ _ _ 86 [some (.ref 359), some (.int (nI f)), some (.int (nI s)), some (.int (nI 1)), none] [] (zz_SH, I1, J) _
              refine Ev.run [(.iload_n 3, 1)] (pc' := 87) (L' := [some (.ref 359), some (.int (nI f)), some (.int (nI s)), some (.int (nI 1)), none]) (S' := [.int (nI 1)]) rfl (by decide +kernel) rfl ?_
              refine Ev.if_eq (off := 7) (tgt := 94) (by decide +kernel) (by decide) (fun h87 => absurd h87 (by decide)) (fun h87 => ?_)
              refine Ev.run [(.iload_n 2, 1)] (pc' := 91) (L' := [some (.ref 359), some (.int (nI f)), some (.int (nI s)), some (.int (nI 1)), none]) (S' := [.int (nI s)]) rfl (by decide +kernel) rfl ?_
              refine Ev.goto (off := 4) (tgt := 95) (by decide +kernel) (by decide) ?_
              refine Ev.run [(.istore_n 1, 1), (.iinc 2 1, 3)] (pc' := 99) (L' := [some (.ref 359), some (.int (nI s)), some (.int (nI s + 1)), some (.int (nI 1)), none]) (S' := []) rfl (by decide +kernel) rfl ?_
              rw [nI_1 s]
              refine Ev.goto (off := (-90)) (tgt := 9) (by decide +kernel) (by decide) ?_
              refine Ev.weakL (L' := [some (.ref 359), some (.int (nI s)), some (.int (nI (s + 1))), none, none]) ⟨rfl, rfl, rfl, trivial⟩ ?_
              have e9 : kps A (s + 1) = some s := by rw [kps, hx]; exact if_pos ⟨h31, hen⟩
              exact ih (s + 1) (some s) (by omega) (by omega) e9.symm
            · intro hen
              show Ev _ _ _ _ _ 86 [some (.ref 359), some (.int (nI f)), some (.int (nI s)), some (.int (nI 0)), none] [] (zz_SH, I1, J) _
              refine Ev.run [(.iload_n 3, 1)] (pc' := 87) (L' := [some (.ref 359), some (.int (nI f)), some (.int (nI s)), some (.int (nI 0)), none]) (S' := [.int (nI 0)]) rfl (by decide +kernel) rfl ?_
              refine Ev.if_eq (off := 7) (tgt := 94) (by decide +kernel) (by decide) (fun h87 => ?_) (fun h87 => absurd h87 (by decide))
              refine Ev.run [(.iload_n 1, 1), (.istore_n 1, 1), (.iinc 2 1, 3)] (pc' := 99) (L' := [some (.ref 359), some (.int (nI f)), some (.int (nI s + 1)), some (.int (nI 0)), none]) (S' := []) rfl (by decide +kernel) rfl ?_
              rw [nI_1 s]
              refine Ev.goto (off := (-90)) (tgt := 9) (by decide +kernel) (by decide) ?_
              refine Ev.weakL (L' := [some (.ref 359), some (.int (nI f)), some (.int (nI (s + 1))), none, none]) ⟨rfl, rfl, rfl, trivial⟩ ?_
              have e9 : kps A (s + 1) = some f := by rw [kps, hx]; exact if_neg (fun q => by rw [hen] at q; simp at q)
              exact ih (s + 1) _ (by omega) (by omega) e9.symm

set_option maxRecDepth 100000 in
set_option maxHeartbeats 4000000 in
theorem c_X7_kept {sc : Nat × (Nat → Int32)} {d : Nat} (I : Nat → Nat → Int32) (J : Nat → Nat → Int64) (A : zA) (hV : MV (zVm I) A) (hW : WF A) : EvM sc (d + 8) 0 0 mX7_kept [.ref 359] (zz_SH, I, J) (fun r σ => r = some (.int (ob (kps A (2 ^ aN A)))) ∧ ∃ I' : Nat → Nat → Int32, zSc I I' ∧ σ = (zz_SH, I', J)) := by
  have w1 := hW.1.1
  have w2 := hW.1.2.1
  have hp : 2 ^ aN A ≤ 4096 := Nat.le_trans (zz_pw2 w1) (by decide)
  refine EvM.of (by decide) rfl (Nat.le_of_ble_eq_true rfl) ?_
  show Ev _ _ _ _ _ 0 [some (.ref 359), none, none, none, none] [] (zz_SH, I, J) _
  refine Ev.run [(.aload_n 0, 1)] (pc' := 1) (L' := [some (.ref 359), none, none, none, none]) (S' := [.ref 359]) rfl (by decide +kernel) rfl ?_
  refine Ev.callV0 mX7_layNeeds [] [] _ rfl lk_RX7_156 (by decide +kernel) (rfl) rfl rfl rfl (Nat.le_of_ble_eq_true rfl) (c_X7_layNeeds I J A hV hW) ?_
  rintro _ _ ⟨rfl, I1, hs1, hn1, rfl⟩
  show Ev _ _ _ _ _ 4 [some (.ref 359), none, none, none, none] [] (zz_SH, I1, J) _
  refine Ev.run [(.bipush (-6), 2), (.istore_n 1, 1), (.iconst 0, 1), (.istore_n 2, 1)] (pc' := 9) (L' := [some (.ref 359), some (.int ((-6))), some (.int (nI 0)), none, none]) (S' := []) rfl (by decide +kernel) rfl ?_
  exact l_X7_kp1 I J A hV hW I1 hs1 hn1 (2 ^ aN A + 1) 0 none (Nat.lt_succ_of_le (Nat.sub_le _ _)) (Nat.zero_le _) rfl
