/-! ===== the class: kept ===== -/
section ZZ9
variable {sc : Nat × (Nat → Int32)} {d mc ms : Nat} {M : zz_MD} {pc : Nat} {L : List (Option Value)} {S : List Value} {σ : zz_St} {Q : Option Value → zz_St → Prop}
theorem Ev.ldcw {idx : Nat} {v : Int32} (hd : decode M.2.1 pc = .ok (.ldc_w idx, 3)) (hw : Cond.constant M.1.cls idx v ∈ zz_WG)
    (kk : Ev sc d mc ms M (pc + 3) L (.int v :: S) σ Q) : Ev sc d mc ms M pc L S σ Q := by
  intro p l e R s m args below meth c D cA b ex H locs cells slots Qt ls hC hR hL hf1 hlo hce hsl hret
  have K := kk p l e R s m args below meth c D cA b ex H locs cells slots Qt ls hC hR hL hf1 hlo hce hsl hret
  obtain ⟨hx, hb, hml, hown, hts, hK, hX, hbl, hnm⟩ := hC
  exact lv_ldcw hx hb hown (hts _ hw) hd K
end ZZ9
def us (x : Int32) (k : Int32) : Int32 := (Int32.toUInt32 x >>> (Int32.toUInt32 k &&& Int32.toUInt32 31)).toInt32
def bc1 (x : Int32) : Int32 := x - ((us x (nI 1)) &&& 1431655765)
def bc2 (x : Int32) : Int32 := (x &&& 858993459) + ((us x (nI 2)) &&& 858993459)
def bc3 (x : Int32) : Int32 := (x + (us x (nI 4))) &&& 252645135
def bc4 (x : Int32) : Int32 := x + (us x (nI 8))
def bc5 (x : Int32) : Int32 := x + (us x (nI 16))
theorem bc_all : ∀ a, a < 64 → ∀ b, b < 64 → bc5 (bc4 (bc3 (bc2 (bc1 (nI (64 * a + b)))))) &&& nI 63 = nI (bcn (64 * a + b) 12) := by decide +kernel
theorem bc_ok {s : Nat} (hs : s < 4096) : bc5 (bc4 (bc3 (bc2 (bc1 (nI s))))) &&& nI 63 = nI (bcn s 12) := by
  have h := bc_all (s / 64) (by omega) (s % 64) (Nat.mod_lt _ (by decide))
  rw [Nat.div_add_mod] at h
  exact h

theorem Ev.mono {sc : Nat × (Nat → Int32)} {d mc ms : Nat} {M : zz_MD} {pc : Nat} {L : List (Option Value)} {S : List Value} {σ : zz_St} {Q Q' : Option Value → zz_St → Prop} (h : ∀ r σ', Q r σ' → Q' r σ') (k : Ev sc d mc ms M pc L S σ Q) : Ev sc d mc ms M pc L S σ Q' := by
  intro p l e R s m args below meth c D cA b ex H locs cells slots Qt ls hC hR hL hf1 hlo hce hsl hret
  exact k p l e R s m args below meth c D cA b ex H locs cells slots Qt ls hC hR hL hf1 hlo hce hsl (fun pc' ls' r σ' H' locs' cells' slots' q => hret pc' ls' r σ' H' locs' cells' slots' (h r σ' q))

set_option maxRecDepth 100000 in
set_option maxHeartbeats 4000000 in
theorem c_J6_bitCount {sc : Nat × (Nat → Int32)} {d : Nat} (I : Nat → Nat → Int32) (J : Nat → Nat → Int64) (s : Nat) (hs : s < 4096) : EvM sc (d) 0 0 mJ6_bitCount_0f7a4 [.int (nI s)] (zz_SH, I, J) (zz_is (.int (nI (bcn s 12))) (zz_SH, I, J)) := by
  refine EvM.of (by decide) rfl (Nat.le_of_ble_eq_true rfl) ?_
  show Ev _ _ _ _ _ 0 [some (.int (nI s))] [] (zz_SH, I, J) _
  refine Ev.run [(.iload_n 0, 1), (.iload_n 0, 1), (.iconst 1, 1), (.iushr, 1)] (pc' := 4) (L' := [some (.int (nI s))]) (S' := [.int ((Int32.toUInt32 (nI s) >>> (Int32.toUInt32 (nI 1) &&& Int32.toUInt32 31)).toInt32), .int (nI s)]) rfl (by decide +kernel) rfl ?_
  refine Ev.ldcw (idx := 265) (v := 1431655765) (by decide +kernel) (by decide +kernel) ?_
  refine Ev.run [(.iand, 1), (.isub, 1), (.istore_n 0, 1)] (pc' := 10) (L' := [some (.int (nI s - (((Int32.toUInt32 (nI s) >>> (Int32.toUInt32 (nI 1) &&& Int32.toUInt32 31)).toInt32) &&& 1431655765)))]) (S' := []) rfl (by decide +kernel) rfl ?_
  refine Ev.run [(.iload_n 0, 1)] (pc' := 11) (L' := [some (.int (bc1 (nI s)))]) (S' := [.int (bc1 (nI s))]) rfl (by decide +kernel) rfl ?_
  refine Ev.ldcw (idx := 266) (v := 858993459) (by decide +kernel) (by decide +kernel) ?_
  refine Ev.run [(.iand, 1), (.iload_n 0, 1), (.iconst 2, 1), (.iushr, 1)] (pc' := 18) (L' := [some (.int (bc1 (nI s)))]) (S' := [.int ((Int32.toUInt32 (bc1 (nI s)) >>> (Int32.toUInt32 (nI 2) &&& Int32.toUInt32 31)).toInt32), .int ((bc1 (nI s)) &&& 858993459)]) rfl (by decide +kernel) rfl ?_
  refine Ev.ldcw (idx := 266) (v := 858993459) (by decide +kernel) (by decide +kernel) ?_
  refine Ev.run [(.iand, 1), (.iadd, 1), (.istore_n 0, 1)] (pc' := 24) (L' := [some (.int (((bc1 (nI s)) &&& 858993459) + (((Int32.toUInt32 (bc1 (nI s)) >>> (Int32.toUInt32 (nI 2) &&& Int32.toUInt32 31)).toInt32) &&& 858993459)))]) (S' := []) rfl (by decide +kernel) rfl ?_
  refine Ev.run [(.iload_n 0, 1), (.iload_n 0, 1), (.iconst 4, 1), (.iushr, 1), (.iadd, 1)] (pc' := 29) (L' := [some (.int (bc2 (bc1 (nI s))))]) (S' := [.int ((bc2 (bc1 (nI s))) + ((Int32.toUInt32 (bc2 (bc1 (nI s))) >>> (Int32.toUInt32 (nI 4) &&& Int32.toUInt32 31)).toInt32))]) rfl (by decide +kernel) rfl ?_
  refine Ev.ldcw (idx := 267) (v := 252645135) (by decide +kernel) (by decide +kernel) ?_
  refine Ev.run [(.iand, 1), (.istore_n 0, 1)] (pc' := 34) (L' := [some (.int (((bc2 (bc1 (nI s))) + ((Int32.toUInt32 (bc2 (bc1 (nI s))) >>> (Int32.toUInt32 (nI 4) &&& Int32.toUInt32 31)).toInt32)) &&& 252645135))]) (S' := []) rfl (by decide +kernel) rfl ?_
  refine Ev.run [(.iload_n 0, 1), (.iload_n 0, 1), (.bipush 8, 2), (.iushr, 1), (.iadd, 1), (.istore_n 0, 1)] (pc' := 41) (L' := [some (.int ((bc3 (bc2 (bc1 (nI s)))) + ((Int32.toUInt32 (bc3 (bc2 (bc1 (nI s)))) >>> (Int32.toUInt32 (nI 8) &&& Int32.toUInt32 31)).toInt32)))]) (S' := []) rfl (by decide +kernel) rfl ?_
  refine Ev.run [(.iload_n 0, 1), (.iload_n 0, 1), (.bipush 16, 2), (.iushr, 1), (.iadd, 1), (.istore_n 0, 1)] (pc' := 48) (L' := [some (.int ((bc4 (bc3 (bc2 (bc1 (nI s))))) + ((Int32.toUInt32 (bc4 (bc3 (bc2 (bc1 (nI s))))) >>> (Int32.toUInt32 (nI 16) &&& Int32.toUInt32 31)).toInt32)))]) (S' := []) rfl (by decide +kernel) rfl ?_
  refine Ev.run [(.iload_n 0, 1), (.bipush 63, 2), (.iand, 1)] (pc' := 52) (L' := [some (.int (bc5 (bc4 (bc3 (bc2 (bc1 (nI s)))))))]) (S' := [.int ((bc5 (bc4 (bc3 (bc2 (bc1 (nI s)))))) &&& nI 63)]) rfl (by decide +kernel) rfl ?_
  exact Ev.iret rfl (by decide +kernel) (⟨by rw [bc_ok hs], rfl⟩)

theorem bcn_miss {s k : Nat} (hk : s.testBit k = false) : ∀ n, k < n → bcn s n < n
  | 0, h => absurd h (Nat.not_lt_zero _)
  | n + 1, h => by
    have h1 := bcn_le s n
    have h2 := zz_tb_le s n
    rw [bcn]
    by_cases e : k = n
    · rw [zz_tb0.mpr (by rw [← e]; exact hk)]; omega
    · have := bcn_miss hk n (by omega); omega
theorem bcn_hi {s N : Nat} (hs : s < 2 ^ N) : ∀ j, bcn s (N + j) = bcn s N
  | 0 => rfl
  | j + 1 => by
    rw [← Nat.add_assoc, bcn, bcn_hi hs j, zz_tb0.mpr (Nat.testBit_lt_two_pow (Nat.lt_of_lt_of_le hs (zz_pw2 (by omega))))]
    rfl
theorem bcn_lt {s N : Nat} (hN : N ≤ 12) (hs : s < 2 ^ N - 1) : bcn s 12 < N := by
  obtain ⟨k, hk, hb⟩ := zz_miss hs
  have h := bcn_hi (show s < 2 ^ N by omega) (12 - N)
  rw [show N + (12 - N) = 12 by omega] at h
  rw [h]; exact bcn_miss hb N hk
theorem bcn_full : ∀ N, N < 13 → bcn (2 ^ N - 1) 12 = N := by decide +kernel
def clk (A : zA) : Nat → Nat
  | 0 => 2 ^ aN A - 1
  | s + 1 => if bcn s 12 < bcn (clk A s) 12 ∧ en A s (aM A) = true then s else clk A s
theorem en_full (A : zA) : en A (2 ^ aN A - 1) (aM A) = true := by
  rw [en_iff]
  intro k hk
  by_cases h : ned A k (aN A) = 0
  · exact Or.inl h
  · right
    rw [Nat.and_two_pow_sub_one_eq_mod, Nat.mod_eq_of_lt (ned_lt A k _)]
    exact h
theorem clk_kps {A : zA} (hN : aN A ≤ 12) : ∀ s, s ≤ 2 ^ aN A - 1 → (kps A s = none ∧ clk A s = 2 ^ aN A - 1) ∨ ∃ f, f < 2 ^ aN A - 1 ∧ kps A s = some f ∧ clk A s = f
  | 0, _ => Or.inl ⟨rfl, rfl⟩
  | s + 1, h => by
    have b1 := bcn_lt hN (show s < 2 ^ aN A - 1 by omega)
    rcases clk_kps hN s (by omega) with ⟨h1, h2⟩ | ⟨f, h0, h1, h2⟩
    · by_cases he : en A s (aM A) = true
      · refine Or.inr ⟨s, by omega, ?_, ?_⟩
        · rw [kps, h1]; exact if_pos he
        · rw [clk, if_pos]; exact ⟨by rw [h2, bcn_full _ (by omega)]; exact b1, he⟩
      · refine Or.inl ⟨?_, ?_⟩
        · rw [kps, h1]; exact if_neg he
        · rw [clk, if_neg (fun q => he q.2), h2]
    · by_cases he : bcn s 12 < bcn f 12 ∧ en A s (aM A) = true
      · refine Or.inr ⟨s, by omega, ?_, ?_⟩
        · rw [kps, h1]; exact if_pos he
        · rw [clk, if_pos]; rw [h2]; exact he
      · refine Or.inr ⟨f, h0, ?_, ?_⟩
        · rw [kps, h1]; exact if_neg he
        · rw [clk, if_neg]; exact h2
          rw [h2]; exact he
theorem clk_end {A : zA} (hN : aN A ≤ 12) : ob (kps A (2 ^ aN A)) = nI (clk A (2 ^ aN A)) := by
  have p1 : 0 < 2 ^ aN A := Nat.pow_pos (by decide)
  have bf := bcn_full _ (show aN A < 13 by omega)
  have hk : ∃ f, kps A (2 ^ aN A - 1 + 1) = some f ∧ clk A (2 ^ aN A - 1 + 1) = f := by
    rcases clk_kps hN (2 ^ aN A - 1) (Nat.le_refl _) with ⟨h1, h2⟩ | ⟨f, h0, h1, h2⟩
    · refine ⟨2 ^ aN A - 1, ?_, ?_⟩
      · rw [kps, h1]; exact if_pos (en_full A)
      · rw [clk, if_neg (fun q => absurd q.1 (by rw [h2]; exact Nat.lt_irrefl _)), h2]
    · have b1 := bcn_lt hN h0
      refine ⟨f, ?_, ?_⟩
      · rw [kps, h1]; exact if_neg (fun q => by have := q.1; rw [bf] at this; omega)
      · rw [clk, if_neg (fun q => by have := q.1; rw [h2, bf] at this; omega), h2]
  rw [show 2 ^ aN A - 1 + 1 = 2 ^ aN A by omega] at hk
  obtain ⟨f, a, b⟩ := hk
  rw [a, b]; rfl
theorem clk_le {A : zA} : ∀ s, s ≤ 2 ^ aN A → clk A s ≤ 2 ^ aN A
  | 0, _ => Nat.sub_le _ _
  | s + 1, h => by
    have := clk_le (A := A) s (by omega)
    rw [clk]
    split <;> omega
def NB (A : zA) (I : Nat → Nat → Int32) : Prop := ∀ t, t < aM A → I 325 t = nI (ned A t (aN A))

set_option maxRecDepth 100000 in
set_option maxHeartbeats 4000000 in
theorem l_X3_ie {sc : Nat × (Nat → Int32)} {d : Nat} (I : Nat → Nat → Int32) (J : Nat → Nat → Int64) (A : zA) (hC : CR 3 I A) (hW : WF A) (hNB : NB A I) (s : Nat) (hs : s < 4096) : ∀ (μ : Nat) (k : Nat), aM A - k < μ → (k ≤ aM A) → (∀ t, t < k → ned A t (aN A) = 0 ∨ ¬ (ned A t (aN A) &&& s) = 0) →  Ev sc (d) 0 0 mX3_isEnough 2 [some (.ref 310), some (.ref 3), some (.int (nI s)), some (.int (nI k))] [] (zz_SH, I, J) (zz_tf (en A s (aM A) = true) (zz_SH, I, J)) := by
  intro μ
  induction μ with
  | zero => intro k hμ; exact absurd hμ (Nat.not_lt_zero _)
  | succ μ ih =>
    intro k hμ hk hal
    have w1 := hW.1.1
    have w2 := hW.1.2.1
    have p2 : (2 : Nat) ^ aN A ≤ 2 ^ 12 := zz_pw2 w1
    refine Ev.run [(.iload_n 3, 1), (.aload_n 1, 1), (.getfield 67, 3)] (pc' := 7) (L' := [some (.ref 310), some (.ref 3), some (.int (nI s)), some (.int (nI k))]) (S' := [.int (I 3 11), .int (nI k)]) rfl (by decide +kernel) rfl ?_
    rw [show I 3 11 = nI (aM A) from hC.1.1.2]
    refine Ev.icmp_ge (off := 31) (tgt := 38) (by decide +kernel) (by decide) (fun h7 => ?_) (fun h7 => ?_)
    · have h7 : k ≥ (aM A) := zz_bG_t (by omega) (by omega) h7
      refine Ev.run [(.iconst 1, 1)] (pc' := 39) (L' := [some (.ref 310), some (.ref 3), some (.int (nI s)), some (.int (nI k))]) (S' := [.int (nI 1)]) rfl (by decide +kernel) rfl ?_
      exact Ev.zret rfl (by decide +kernel) (Or.inr rfl) (⟨rfl, Or.inl ⟨rfl, (en_iff _).mpr (fun t ht => hal t (by omega))⟩⟩)
    · have h7 : k < (aM A) := zz_bG_f (by omega) (by omega) h7
      have q1 := ned_lt A k (aN A)
      have q2 : ned A k (aN A) &&& s ≤ s := Nat.and_le_right
      refine Ev.run [(.aload_n 0, 1), (.getfield 26, 3), (.iload_n 3, 1)] (pc' := 15) (L' := [some (.ref 310), some (.ref 3), some (.int (nI s)), some (.int (nI k))]) (S' := [.int (nI k), .ref 325]) rfl (by decide +kernel) rfl ?_
      refine Ev.iald k (by decide +kernel) (rfl) (rfl) (by omega) (by first | decide | omega) ?_
      dsimp only
      rw [show I 325 k = nI (ned A k (aN A)) from hNB k (by omega)]
      refine Ev.if_eq (off := 16) (tgt := 32) (by decide +kernel) (by decide) (fun h16 => ?_) (fun h16 => ?_)
      · have h16 : (ned A k (aN A)) = 0 := zz_bE_t (by omega) (by omega) h16
        refine Ev.run [(.iinc 3 1, 3)] (pc' := 35) (L' := [some (.ref 310), some (.ref 3), some (.int (nI s)), some (.int (nI k + 1))]) (S' := []) rfl (by decide +kernel) rfl ?_
        rw [nI_1 k]
        refine Ev.goto (off := (-33)) (tgt := 2) (by decide +kernel) (by decide) ?_
        exact ih (k + 1) (by omega) (by omega) (lt_s hal (Or.inl h16))
      · have h16 : ¬ (ned A k (aN A)) = 0 := zz_bE_f (by omega) (by omega) h16
        refine Ev.run [(.aload_n 0, 1), (.getfield 26, 3), (.iload_n 3, 1)] (pc' := 24) (L' := [some (.ref 310), some (.ref 3), some (.int (nI s)), some (.int (nI k))]) (S' := [.int (nI k), .ref 325]) rfl (by decide +kernel) rfl ?_
        refine Ev.iald k (by decide +kernel) (rfl) (rfl) (by omega) (by first | decide | omega) ?_
        dsimp only
        rw [show I 325 k = nI (ned A k (aN A)) from hNB k (by omega)]
        refine Ev.run [(.iload_n 2, 1), (.iand, 1)] (pc' := 27) (L' := [some (.ref 310), some (.ref 3), some (.int (nI s)), some (.int (nI k))]) (S' := [.int (nI (ned A k (aN A)) &&& nI s)]) rfl (by decide +kernel) rfl ?_
        rw [zz_and (ned A k (aN A)) s]
        refine Ev.if_ne (off := 5) (tgt := 32) (by decide +kernel) (by decide) (fun h27 => ?_) (fun h27 => ?_)
        · have h27 : ¬ ((ned A k (aN A)) &&& s) = 0 := zz_bE_f (by omega) (by omega) h27
          refine Ev.run [(.iinc 3 1, 3)] (pc' := 35) (L' := [some (.ref 310), some (.ref 3), some (.int (nI s)), some (.int (nI k + 1))]) (S' := []) rfl (by decide +kernel) rfl ?_
          rw [nI_1 k]
          refine Ev.goto (off := (-33)) (tgt := 2) (by decide +kernel) (by decide) ?_
          exact ih (k + 1) (by omega) (by omega) (lt_s hal (Or.inr h27))
        · have h27 : ((ned A k (aN A)) &&& s) = 0 := zz_bE_t (by omega) (by omega) h27
          refine Ev.run [(.iconst 0, 1)] (pc' := 31) (L' := [some (.ref 310), some (.ref 3), some (.int (nI s)), some (.int (nI k))]) (S' := [.int (nI 0)]) rfl (by decide +kernel) rfl ?_
          exact Ev.zret rfl (by decide +kernel) (Or.inl rfl) (⟨rfl, Or.inr ⟨rfl, fun q => ((en_iff _).mp q k (by omega)).elim h16 (fun q2 => q2 h27)⟩⟩)

set_option maxRecDepth 100000 in
set_option maxHeartbeats 4000000 in
theorem c_X3_isEnough {sc : Nat × (Nat → Int32)} {d : Nat} (I : Nat → Nat → Int32) (J : Nat → Nat → Int64) (A : zA) (hC : CR 3 I A) (hW : WF A) (hNB : NB A I) (s : Nat) (hs : s < 4096) : EvM sc (d) 0 0 mX3_isEnough [.ref 310, .ref 3, .int (nI s)] (zz_SH, I, J) (zz_tf (en A s (aM A) = true) (zz_SH, I, J)) := by
  have w1 := hW.1.1
  have w2 := hW.1.2.1
  refine EvM.of (by decide) rfl (Nat.le_of_ble_eq_true rfl) ?_
  show Ev _ _ _ _ _ 0 [some (.ref 310), some (.ref 3), some (.int (nI s)), none] [] (zz_SH, I, J) _
  refine Ev.run [(.iconst 0, 1), (.istore_n 3, 1)] (pc' := 2) (L' := [some (.ref 310), some (.ref 3), some (.int (nI s)), some (.int (nI 0))]) (S' := []) rfl (by decide +kernel) rfl ?_
  exact l_X3_ie I J A hC hW hNB s hs (aM A + 1) 0 (by omega) (by omega) (fun t ht => absurd ht (Nat.not_lt_zero t))

set_option maxRecDepth 100000 in
set_option maxHeartbeats 4000000 in
theorem l_X3_rn1 {sc : Nat × (Nat → Int32)} {d : Nat} (I : Nat → Nat → Int32) (J : Nat → Nat → Int64) (A : zA) (hC : CR 3 I A) (hW : WF A) (k : Nat) (hk : k < aM A) (Q : Option Value → zz_St → Prop) (hout : ∀ h : Nat → Int32, (∀ t, t < k → h t = nI (ned A t (aN A))) → h k = nI (ned A k (aN A)) → Ev sc (d + 2) 0 0 mX3_readNeeded 75 [some (.ref 310), some (.ref 3), some (.int (nI k)), none, none] [] (zz_SH, zz_cs I 325 h, J) Q) : ∀ (μ : Nat) (p : Nat) (h : Nat → Int32), aN A - p < μ → (p ≤ aN A) → (∀ t, t < k → h t = nI (ned A t (aN A))) → (h k = nI (ned A k p)) →  Ev sc (d + 2) 0 0 mX3_readNeeded 26 [some (.ref 310), some (.ref 3), some (.int (nI k)), some (.int (nI (bfd A k))), some (.int (nI p))] [] (zz_SH, zz_cs I 325 h, J) (Q) := by
  intro μ
  induction μ with
  | zero => intro p h hμ; exact absurd hμ (Nat.not_lt_zero _)
  | succ μ ih =>
    intro p h hμ hp hh hk9
    have w1 := hW.1.1
    have w2 := hW.1.2.1
    have hC1 : CR 3 (zz_cs I 325 h) A := (zCq.cs I 325 h (by decide)).cr hW hC
    have b5 := bfd_lt A k
    refine Ev.run [(.iload 4, 2), (.aload_n 1, 1), (.getfield 88, 3)] (pc' := 32) (L' := [some (.ref 310), some (.ref 3), some (.int (nI k)), some (.int (nI (bfd A k))), some (.int (nI p))]) (S' := [.int ((zz_cs I 325 h) 3 10), .int (nI p)]) rfl (by decide +kernel) rfl ?_
    rw [show (zz_cs I 325 h) 3 10 = nI (aN A) from hC1.1.1.1]
    refine Ev.icmp_ge (off := 43) (tgt := 75) (by decide +kernel) (by decide) (fun h32 => ?_) (fun h32 => ?_)
    · have h32 : p ≥ (aN A) := zz_bG_t (by omega) (by omega) h32
      have hpN : aN A = p := by omega
      refine Ev.weakL (L' := [some (.ref 310), some (.ref 3), some (.int (nI k)), none, none]) ⟨rfl, rfl, rfl, trivial⟩ ?_
      exact hout h hh (by rw [hpN]; exact hk9)
    · have h32 : p < (aN A) := zz_bG_f (by omega) (by omega) h32
      refine Ev.run [(.iload_n 3, 1), (.iconst 4, 1)] (pc' := 37) (L' := [some (.ref 310), some (.ref 3), some (.int (nI k)), some (.int (nI (bfd A k))), some (.int (nI p))]) (S' := [.int (nI 4), .int (nI (bfd A k))]) rfl (by decide +kernel) rfl ?_
      refine Ev.icmp_eq (off := 38) (tgt := 75) (by decide +kernel) (by decide) (fun h37 => ?_) (fun h37 => ?_)
      · have h37 : (bfd A k) = 4 := zz_bE_t (by omega) (by omega) h37
        refine Ev.weakL (L' := [some (.ref 310), some (.ref 3), some (.int (nI k)), none, none]) ⟨rfl, rfl, rfl, trivial⟩ ?_
        exact hout h hh (by rw [hk9, ned_4 (by omega), ned_4 (by omega)])
      · have h37 : ¬ (bfd A k) = 4 := zz_bE_f (by omega) (by omega) h37
        refine Ev.run [(.aload_n 1, 1), (.getfield 46, 3), (.iload_n 2, 1)] (pc' := 45) (L' := [some (.ref 310), some (.ref 3), some (.int (nI k)), some (.int (nI (bfd A k))), some (.int (nI p))]) (S' := [.int (nI k), .ref 8]) rfl (by decide +kernel) rfl ?_
        refine Ev.aald k (by decide +kernel) (rfl) (by decide) (rfl) (by omega) (by first | decide | omega) (zz_b9 k (by omega)) ?_
        refine Ev.run [(.iload 4, 2)] (pc' := 48) (L' := [some (.ref 310), some (.ref 3), some (.int (nI k)), some (.int (nI (bfd A k))), some (.int (nI p))]) (S' := [.int (nI p), .ref (9 + k)]) rfl (by decide +kernel) rfl ?_
        refine Ev.iald p (by decide +kernel) (zz_s9 k (by omega)) (rfl) (by omega) (by first | decide | omega) ?_
        dsimp only
        rw [show (zz_cs I 325 h) (9 + k) p = nI (mtc A k p) from (hC1.2.1 k hk).1 p (by omega)]
        refine Ev.callS0 mX3_bandOf [.int (nI (mtc A k p))] [] _ rfl lk_RX3_49 (by decide +kernel) rfl (Nat.le_of_ble_eq_true rfl) (c_X3_bandOf (zz_cs I 325 h) J (mtc A k p) (by have := mtc_le A k p; omega)) ?_
        rintro _ _ ⟨rfl, rfl⟩
        have b6 := bnd_lt (mtc A k p)
        show Ev _ _ _ _ _ 52 [some (.ref 310), some (.ref 3), some (.int (nI k)), some (.int (nI (bfd A k))), some (.int (nI p))] [.int (nI (bnd (mtc A k p)))] (zz_SH, zz_cs I 325 h, J) _
        refine Ev.run [(.iload_n 3, 1)] (pc' := 53) (L' := [some (.ref 310), some (.ref 3), some (.int (nI k)), some (.int (nI (bfd A k))), some (.int (nI p))]) (S' := [.int (nI (bfd A k)), .int (nI (bnd (mtc A k p)))]) rfl (by decide +kernel) rfl ?_
        refine Ev.icmp_ne (off := 16) (tgt := 69) (by decide +kernel) (by decide) (fun h53 => ?_) (fun h53 => ?_)
        · have h53 : ¬ (bnd (mtc A k p)) = (bfd A k) := zz_bE_f (by omega) (by omega) h53
          refine Ev.run [(.iinc 4 1, 3)] (pc' := 72) (L' := [some (.ref 310), some (.ref 3), some (.int (nI k)), some (.int (nI (bfd A k))), some (.int (nI p + 1))]) (S' := []) rfl (by decide +kernel) rfl ?_
          rw [nI_1 p]
          refine Ev.goto (off := (-46)) (tgt := 26) (by decide +kernel) (by decide) ?_
          exact ih (p + 1) h (by omega) (by omega) hh (by rw [ned, if_neg (fun q => h53 q.2)]; exact hk9)
        · have h53 : (bnd (mtc A k p)) = (bfd A k) := zz_bE_t (by omega) (by omega) h53
          refine Ev.run [(.aload_n 0, 1), (.getfield 26, 3), (.iload_n 2, 1), (.dup2, 1)] (pc' := 62) (L' := [some (.ref 310), some (.ref 3), some (.int (nI k)), some (.int (nI (bfd A k))), some (.int (nI p))]) (S' := [.int (nI k), .ref 325, .int (nI k), .ref 325]) rfl (by decide +kernel) rfl ?_
          refine Ev.iald k (by decide +kernel) (rfl) (rfl) (by omega) (by first | decide | omega) ?_
          dsimp only
          rw [show (zz_cs I 325 h) 325 k = nI (ned A k p) from by rw [zz_cs_eq]; exact hk9]
          refine Ev.run [(.iconst 1, 1), (.iload 4, 2), (.ishl, 1)] (pc' := 67) (L' := [some (.ref 310), some (.ref 3), some (.int (nI k)), some (.int (nI (bfd A k))), some (.int (nI p))]) (S' := [.int ((nI 1) <<< (nI p &&& 31)), .int (nI (ned A k p)), .int (nI k), .ref 325]) rfl (by decide +kernel) rfl ?_
          rw [zz_shl1 (k := p) (by omega)]
          refine Ev.run [(.ior, 1)] (pc' := 68) (L' := [some (.ref 310), some (.ref 3), some (.int (nI k)), some (.int (nI (bfd A k))), some (.int (nI p))]) (S' := [.int (nI (ned A k p) ||| nI (2 ^ p)), .int (nI k), .ref 325]) rfl (by decide +kernel) rfl ?_
          rw [zz_or (ned A k p) (2 ^ p)]
          refine Ev.iast k (by decide +kernel) (rfl) (rfl) (by omega) (by first | decide | omega) ?_
          dsimp only
          refine Ev.run [(.iinc 4 1, 3)] (pc' := 72) (L' := [some (.ref 310), some (.ref 3), some (.int (nI k)), some (.int (nI (bfd A k))), some (.int (nI p + 1))]) (S' := []) rfl (by decide +kernel) rfl ?_
          rw [nI_1 p]
          refine Ev.goto (off := (-46)) (tgt := 26) (by decide +kernel) (by decide) ?_
          rw [zz_cs_up]
          exact ih (p + 1) _ (by omega) (by omega) (fun t ht => by rw [zz_upn (by omega)]; exact hh t ht) (by rw [zz_ups, ned, if_pos ⟨by omega, h53⟩])

set_option maxRecDepth 100000 in
set_option maxHeartbeats 4000000 in
theorem l_X3_rn2 {sc : Nat × (Nat → Int32)} {d : Nat} (I : Nat → Nat → Int32) (J : Nat → Nat → Int64) (A : zA) (hC : CR 3 I A) (hW : WF A) : ∀ (μ : Nat) (k : Nat) (h : Nat → Int32), aM A - k < μ → (k ≤ aM A) → (∀ t, t < k → h t = nI (ned A t (aN A))) →  Ev sc (d + 2) 0 0 mX3_readNeeded 2 [some (.ref 310), some (.ref 3), some (.int (nI k)), none, none] [] (zz_SH, zz_cs I 325 h, J) (fun r σ => r = none ∧ ∃ h : Nat → Int32, (∀ k, k < aM A → h k = nI (ned A k (aN A))) ∧ σ = (zz_SH, zz_cs I 325 h, J)) := by
  intro μ
  induction μ with
  | zero => intro k h hμ; exact absurd hμ (Nat.not_lt_zero _)
  | succ μ ih =>
    intro k h hμ hk hh
    have w1 := hW.1.1
    have w2 := hW.1.2.1
    have hC1 : CR 3 (zz_cs I 325 h) A := (zCq.cs I 325 h (by decide)).cr hW hC
    refine Ev.run [(.iload_n 2, 1), (.aload_n 1, 1), (.getfield 67, 3)] (pc' := 7) (L' := [some (.ref 310), some (.ref 3), some (.int (nI k)), none, none]) (S' := [.int ((zz_cs I 325 h) 3 11), .int (nI k)]) rfl (by decide +kernel) rfl ?_
    rw [show (zz_cs I 325 h) 3 11 = nI (aM A) from hC1.1.1.2]
    refine Ev.icmp_ge (off := 74) (tgt := 81) (by decide +kernel) (by decide) (fun h7 => ?_) (fun h7 => ?_)
    · have h7 : k ≥ (aM A) := zz_bG_t (by omega) (by omega) h7
      have hkM : aM A = k := by omega
      exact Ev.vret rfl (by decide +kernel) (⟨rfl, h, fun t ht => hh t (by omega), rfl⟩)
    · have h7 : k < (aM A) := zz_bG_f (by omega) (by omega) h7
      refine Ev.run [(.aload_n 1, 1), (.iload_n 2, 1)] (pc' := 12) (L' := [some (.ref 310), some (.ref 3), some (.int (nI k)), none, none]) (S' := [.int (nI k), .ref 3]) rfl (by decide +kernel) rfl ?_
      refine Ev.callS0 mX3_bandFound [.ref 3, .int (nI k)] [] _ rfl lk_RX3_52 (by decide +kernel) rfl (Nat.le_of_ble_eq_true rfl) (c_X3_bandFound (zz_cs I 325 h) J A hC1 hW k (by omega)) ?_
      rintro _ _ ⟨rfl, rfl⟩
      show Ev _ _ _ _ _ 15 [some (.ref 310), some (.ref 3), some (.int (nI k)), none, none] [.int (nI (bfd A k))] (zz_SH, zz_cs I 325 h, J) _
      refine Ev.run [(.istore_n 3, 1), (.aload_n 0, 1), (.getfield 26, 3), (.iload_n 2, 1), (.iconst 0, 1)] (pc' := 22) (L' := [some (.ref 310), some (.ref 3), some (.int (nI k)), some (.int (nI (bfd A k))), none]) (S' := [.int (nI 0), .int (nI k), .ref 325]) rfl (by decide +kernel) rfl ?_
      refine Ev.iast k (by decide +kernel) (rfl) (rfl) (by omega) (by first | decide | omega) ?_
      dsimp only
      refine Ev.run [(.iconst 0, 1), (.istore 4, 2)] (pc' := 26) (L' := [some (.ref 310), some (.ref 3), some (.int (nI k)), some (.int (nI (bfd A k))), some (.int (nI 0))]) (S' := []) rfl (by decide +kernel) rfl ?_
      rw [zz_cs_up]
      refine l_X3_rn1 I J A hC hW k (by omega) _ ?_ (aN A + 1) 0 _ (by omega) (by omega) (fun t ht => by rw [zz_upn (by omega)]; exact hh t ht) (by rw [zz_ups]; rfl)
      intro h9 hh9 hk9
      show Ev _ _ _ _ _ 75 [some (.ref 310), some (.ref 3), some (.int (nI k)), none, none] [] (zz_SH, zz_cs I 325 h9, J) _
      refine Ev.run [(.iinc 2 1, 3)] (pc' := 78) (L' := [some (.ref 310), some (.ref 3), some (.int (nI k + 1)), none, none]) (S' := []) rfl (by decide +kernel) rfl ?_
      rw [nI_1 k]
      refine Ev.goto (off := (-76)) (tgt := 2) (by decide +kernel) (by decide) ?_
      refine ih (k + 1) h9 (by omega) (by omega) (fun t ht => ?_)
      by_cases e : t = k
      · rw [e]; exact hk9
      · exact hh9 t (by omega)

set_option maxRecDepth 100000 in
set_option maxHeartbeats 4000000 in
theorem c_X3_readNeeded {sc : Nat × (Nat → Int32)} {d : Nat} (I : Nat → Nat → Int32) (J : Nat → Nat → Int64) (A : zA) (hC : CR 3 I A) (hW : WF A) : EvM sc (d + 2) 0 0 mX3_readNeeded [.ref 310, .ref 3] (zz_SH, I, J) (fun r σ => r = none ∧ ∃ h : Nat → Int32, (∀ k, k < aM A → h k = nI (ned A k (aN A))) ∧ σ = (zz_SH, zz_cs I 325 h, J)) := by
  have w1 := hW.1.1
  have w2 := hW.1.2.1
  refine EvM.of (by decide) rfl (Nat.le_of_ble_eq_true rfl) ?_
  show Ev _ _ _ _ _ 0 [some (.ref 310), some (.ref 3), none, none, none] [] (zz_SH, I, J) _
  refine Ev.run [(.iconst 0, 1), (.istore_n 2, 1)] (pc' := 2) (L' := [some (.ref 310), some (.ref 3), some (.int (nI 0)), none, none]) (S' := []) rfl (by decide +kernel) rfl ?_
  have h0 := l_X3_rn2 (sc := sc) (d := d) I J A hC hW (aM A + 1) 0 (I 325) (by omega) (by omega) (fun t ht => absurd ht (Nat.not_lt_zero t))
  rw [zz_cs_id] at h0
  exact h0

set_option maxRecDepth 100000 in
set_option maxHeartbeats 4000000 in
theorem l_X3_fp {sc : Nat × (Nat → Int32)} {d : Nat} (I : Nat → Nat → Int32) (J : Nat → Nat → Int64) (A : zA) (hC : CR 3 I A) (hW : WF A) (hNB : NB A I) : ∀ (μ : Nat) (s : Nat), 2 ^ aN A - s < μ → (s ≤ 2 ^ aN A) →  Ev sc (d + 3) 0 0 mX3_fewestPairs 22 [some (.ref 310), some (.ref 3), some (.int (nI (clk A s))), some (.int (nI (bcn (clk A s) 12))), some (.int (nI s)), none] [] (zz_SH, I, J) (zz_is (.int (nI (clk A (2 ^ aN A)))) (zz_SH, I, J)) := by
  intro μ
  induction μ with
  | zero => intro s hμ; exact absurd hμ (Nat.not_lt_zero _)
  | succ μ ih =>
    intro s hμ hs
    have w1 := hW.1.1
    have w2 := hW.1.2.1
    have p2 : (2 : Nat) ^ aN A ≤ 2 ^ 12 := zz_pw2 w1
    refine Ev.run [(.iload 4, 2), (.iconst 1, 1), (.aload_n 1, 1), (.getfield 88, 3)] (pc' := 29) (L' := [some (.ref 310), some (.ref 3), some (.int (nI (clk A s))), some (.int (nI (bcn (clk A s) 12))), some (.int (nI s)), none]) (S' := [.int (I 3 10), .int (nI 1), .int (nI s)]) rfl (by decide +kernel) rfl ?_
    rw [show I 3 10 = nI (aN A) from hC.1.1.1]
    refine Ev.run [(.ishl, 1)] (pc' := 30) (L' := [some (.ref 310), some (.ref 3), some (.int (nI (clk A s))), some (.int (nI (bcn (clk A s) 12))), some (.int (nI s)), none]) (S' := [.int ((nI 1) <<< (nI (aN A) &&& 31)), .int (nI s)]) rfl (by decide +kernel) rfl ?_
    rw [zz_shl1 (k := (aN A)) (by omega)]
    refine Ev.icmp_ge (off := 38) (tgt := 68) (by decide +kernel) (by decide) (fun h30 => ?_) (fun h30 => ?_)
    · have h30 : s ≥ (2 ^ (aN A)) := zz_bG_t (by omega) (by omega) h30
      have hse : s = 2 ^ aN A := by omega
      refine Ev.run [(.iload_n 2, 1)] (pc' := 69) (L' := [some (.ref 310), some (.ref 3), some (.int (nI (clk A s))), some (.int (nI (bcn (clk A s) 12))), some (.int (nI s)), none]) (S' := [.int (nI (clk A s))]) rfl (by decide +kernel) rfl ?_
      exact Ev.iret rfl (by decide +kernel) (⟨by rw [← hse], rfl⟩)
    · have h30 : s < (2 ^ (aN A)) := zz_bG_f (by omega) (by omega) h30
      refine Ev.run [(.iload 4, 2)] (pc' := 35) (L' := [some (.ref 310), some (.ref 3), some (.int (nI (clk A s))), some (.int (nI (bcn (clk A s) 12))), some (.int (nI s)), none]) (S' := [.int (nI s)]) rfl (by decide +kernel) rfl ?_
      refine Ev.callS0 mJ6_bitCount_0f7a4 [.int (nI s)] [] _ rfl lk_RX3_108 (by decide +kernel) rfl (Nat.le_of_ble_eq_true rfl) (c_J6_bitCount I J s (by omega)) ?_
      rintro _ _ ⟨rfl, rfl⟩
      have q1 := bcn_le s 12
      have q2 := bcn_le (clk A s) 12
      show Ev _ _ _ _ _ 38 [some (.ref 310), some (.ref 3), some (.int (nI (clk A s))), some (.int (nI (bcn (clk A s) 12))), some (.int (nI s)), none] [.int (nI (bcn s 12))] (zz_SH, I, J) _
      refine Ev.run [(.istore 5, 2), (.iload 5, 2), (.iload_n 3, 1)] (pc' := 43) (L' := [some (.ref 310), some (.ref 3), some (.int (nI (clk A s))), some (.int (nI (bcn (clk A s) 12))), some (.int (nI s)), some (.int (nI (bcn s 12)))]) (S' := [.int (nI (bcn (clk A s) 12)), .int (nI (bcn s 12))]) rfl (by decide +kernel) rfl ?_
      refine Ev.icmp_ge (off := 19) (tgt := 62) (by decide +kernel) (by decide) (fun h43 => ?_) (fun h43 => ?_)
      · have h43 : (bcn s 12) ≥ (bcn (clk A s) 12) := zz_bG_t (by omega) (by omega) h43
        refine Ev.run [(.iinc 4 1, 3)] (pc' := 65) (L' := [some (.ref 310), some (.ref 3), some (.int (nI (clk A s))), some (.int (nI (bcn (clk A s) 12))), some (.int (nI s + 1)), some (.int (nI (bcn s 12)))]) (S' := []) rfl (by decide +kernel) rfl ?_
        rw [nI_1 s]
        refine Ev.goto (off := (-43)) (tgt := 22) (by decide +kernel) (by decide) ?_
        refine Ev.weakL (L' := [some (.ref 310), some (.ref 3), some (.int (nI (clk A s))), some (.int (nI (bcn (clk A s) 12))), some (.int (nI (s + 1))), none]) ⟨rfl, rfl, rfl, rfl, rfl, trivial⟩ ?_
        have e9 : clk A (s + 1) = clk A s := by rw [clk, if_neg (fun q => by have := q.1; omega)]
        rw [← e9]
        exact ih (s + 1) (by omega) (by omega)
      · have h43 : (bcn s 12) < (bcn (clk A s) 12) := zz_bG_f (by omega) (by omega) h43
        refine Ev.run [(.aload_n 0, 1), (.aload_n 1, 1), (.iload 4, 2)] (pc' := 50) (L' := [some (.ref 310), some (.ref 3), some (.int (nI (clk A s))), some (.int (nI (bcn (clk A s) 12))), some (.int (nI s)), some (.int (nI (bcn s 12)))]) (S' := [.int (nI s), .ref 3, .ref 310]) rfl (by decide +kernel) rfl ?_
        refine Ev.callV0 mX3_isEnough [.ref 3, .int (nI s)] [] _ rfl lk_RX3_113 (by decide +kernel) (rfl) rfl rfl rfl (Nat.le_of_ble_eq_true rfl) (c_X3_isEnough I J A hC hW hNB s (by omega)) ?_
        rintro _ _ ⟨rfl, ⟨rfl, h50⟩ | ⟨rfl, h50⟩⟩
        · show Ev _ _ _ _ _ 53 [some (.ref 310), some (.ref 3), some (.int (nI (clk A s))), some (.int (nI (bcn (clk A s) 12))), some (.int (nI s)), some (.int (nI (bcn s 12)))] [.int (nI 1)] (zz_SH, I, J) _
          refine Ev.if_eq (off := 9) (tgt := 62) (by decide +kernel) (by decide) (fun h53 => absurd h53 (by decide)) (fun h53 => ?_)
          refine Ev.run [(.iload 4, 2), (.istore_n 2, 1), (.iload 5, 2), (.istore_n 3, 1), (.iinc 4 1, 3)] (pc' := 65) (L' := [some (.ref 310), some (.ref 3), some (.int (nI s)), some (.int (nI (bcn s 12))), some (.int (nI s + 1)), some (.int (nI (bcn s 12)))]) (S' := []) rfl (by decide +kernel) rfl ?_
          rw [nI_1 s]
          refine Ev.goto (off := (-43)) (tgt := 22) (by decide +kernel) (by decide) ?_
          refine Ev.weakL (L' := [some (.ref 310), some (.ref 3), some (.int (nI s)), some (.int (nI (bcn s 12))), some (.int (nI (s + 1))), none]) ⟨rfl, rfl, rfl, rfl, rfl, trivial⟩ ?_
          have e9 : clk A (s + 1) = s := by rw [clk, if_pos ⟨h43, h50⟩]
          have h9 := ih (s + 1) (by omega) (by omega)
          rw [e9] at h9
          exact h9
        · show Ev _ _ _ _ _ 53 [some (.ref 310), some (.ref 3), some (.int (nI (clk A s))), some (.int (nI (bcn (clk A s) 12))), some (.int (nI s)), some (.int (nI (bcn s 12)))] [.int (nI 0)] (zz_SH, I, J) _
          refine Ev.if_eq (off := 9) (tgt := 62) (by decide +kernel) (by decide) (fun h53 => ?_) (fun h53 => absurd h53 (by decide))
          refine Ev.run [(.iinc 4 1, 3)] (pc' := 65) (L' := [some (.ref 310), some (.ref 3), some (.int (nI (clk A s))), some (.int (nI (bcn (clk A s) 12))), some (.int (nI s + 1)), some (.int (nI (bcn s 12)))]) (S' := []) rfl (by decide +kernel) rfl ?_
          rw [nI_1 s]
          refine Ev.goto (off := (-43)) (tgt := 22) (by decide +kernel) (by decide) ?_
          refine Ev.weakL (L' := [some (.ref 310), some (.ref 3), some (.int (nI (clk A s))), some (.int (nI (bcn (clk A s) 12))), some (.int (nI (s + 1))), none]) ⟨rfl, rfl, rfl, rfl, rfl, trivial⟩ ?_
          have e9 : clk A (s + 1) = clk A s := by rw [clk, if_neg (fun q => h50 q.2)]
          rw [← e9]
          exact ih (s + 1) (by omega) (by omega)

set_option maxRecDepth 100000 in
set_option maxHeartbeats 4000000 in
theorem c_X3_fewestPairs {sc : Nat × (Nat → Int32)} {d : Nat} (I : Nat → Nat → Int32) (J : Nat → Nat → Int64) (A : zA) (hC : CR 3 I A) (hW : WF A) : EvM sc (d + 3) 0 0 mX3_fewestPairs [.ref 310, .ref 3] (zz_SH, I, J) (fun r σ => r = some (.int (ob (kps A (2 ^ aN A)))) ∧ ∃ I' : Nat → Nat → Int32, zCq I I' ∧ σ = (zz_SH, I', J)) := by
  have w1 := hW.1.1
  have w2 := hW.1.2.1
  have p2 : (2 : Nat) ^ aN A ≤ 2 ^ 12 := zz_pw2 w1
  have p1 : 0 < 2 ^ aN A := Nat.pow_pos (by decide)
  refine EvM.of (by decide) rfl (Nat.le_of_ble_eq_true rfl) ?_
  show Ev _ _ _ _ _ 0 [some (.ref 310), some (.ref 3), none, none, none, none] [] (zz_SH, I, J) _
  refine Ev.run [(.aload_n 0, 1), (.aload_n 1, 1)] (pc' := 2) (L' := [some (.ref 310), some (.ref 3), none, none, none, none]) (S' := [.ref 3, .ref 310]) rfl (by decide +kernel) rfl ?_
  refine Ev.callV0 mX3_readNeeded [.ref 3] [] _ rfl lk_RX3_105 (by decide +kernel) (rfl) rfl rfl rfl (Nat.le_of_ble_eq_true rfl) (c_X3_readNeeded I J A hC hW) ?_
  rintro _ _ ⟨rfl, hh, r1, rfl⟩
  have hq : zCq I (zz_cs I 325 hh) := zCq.cs I 325 hh (by decide)
  have hC1 := hq.cr hW hC
  show Ev _ _ _ _ _ 5 [some (.ref 310), some (.ref 3), none, none, none, none] [] (zz_SH, zz_cs I 325 hh, J) _
  refine Ev.run [(.iconst 1, 1), (.aload_n 1, 1), (.getfield 88, 3)] (pc' := 10) (L' := [some (.ref 310), some (.ref 3), none, none, none, none]) (S' := [.int ((zz_cs I 325 hh) 3 10), .int (nI 1)]) rfl (by decide +kernel) rfl ?_
  rw [show (zz_cs I 325 hh) 3 10 = nI (aN A) from hC1.1.1.1]
  refine Ev.run [(.ishl, 1)] (pc' := 11) (L' := [some (.ref 310), some (.ref 3), none, none, none, none]) (S' := [.int ((nI 1) <<< (nI (aN A) &&& 31))]) rfl (by decide +kernel) rfl ?_
  rw [zz_shl1 (k := (aN A)) (by omega)]
  refine Ev.run [(.iconst 1, 1), (.isub, 1)] (pc' := 13) (L' := [some (.ref 310), some (.ref 3), none, none, none, none]) (S' := [.int (nI (2 ^ (aN A)) - nI 1)]) rfl (by decide +kernel) rfl ?_
  rw [show nI (2 ^ (aN A)) - nI 1 = nI (2 ^ (aN A) - 1) from zz_sub (by omega)]
  refine Ev.run [(.istore_n 2, 1), (.aload_n 1, 1), (.getfield 88, 3)] (pc' := 18) (L' := [some (.ref 310), some (.ref 3), some (.int (nI (2 ^ (aN A) - 1))), none, none, none]) (S' := [.int ((zz_cs I 325 hh) 3 10)]) rfl (by decide +kernel) rfl ?_
  rw [show (zz_cs I 325 hh) 3 10 = nI (aN A) from hC1.1.1.1]
  refine Ev.run [(.istore_n 3, 1), (.iconst 0, 1), (.istore 4, 2)] (pc' := 22) (L' := [some (.ref 310), some (.ref 3), some (.int (nI (2 ^ (aN A) - 1))), some (.int (nI (aN A))), some (.int (nI 0)), none]) (S' := []) rfl (by decide +kernel) rfl ?_
  have h0 := l_X3_fp (sc := sc) (d := d) (zz_cs I 325 hh) J A hC1 hW (fun t ht => by rw [zz_cs_eq]; exact r1 t ht) (2 ^ aN A + 1) 0 (by omega) (by omega)
  rw [show bcn (clk A 0) 12 = aN A from bcn_full _ (by omega)] at h0
  refine Ev.mono (fun r σ q => ?_) h0
  exact ⟨by rw [clk_end w1]; exact q.1, _, hq, q.2⟩

set_option maxRecDepth 100000 in
set_option maxHeartbeats 4000000 in
theorem c_X6_kept {sc : Nat × (Nat → Int32)} {d : Nat} (I : Nat → Nat → Int32) (J : Nat → Nat → Int64) (A : zA) (hC : CR 3 I A) (hW : WF A) : EvM sc (d + 4) 0 0 mX6_kept [.ref 0] (zz_SH, I, J) (fun r σ => r = some (.int (ob (kps A (2 ^ aN A)))) ∧ ∃ I' : Nat → Nat → Int32, zCq I I' ∧ σ = (zz_SH, I', J)) := by
  refine EvM.of (by decide) rfl (Nat.le_of_ble_eq_true rfl) ?_
  show Ev _ _ _ _ _ 0 [some (.ref 0)] [] (zz_SH, I, J) _
  refine Ev.run [(.aload_n 0, 1), (.getfield 43, 3), (.aload_n 0, 1), (.getfield 21, 3)] (pc' := 8) (L' := [some (.ref 0)]) (S' := [.ref 3, .ref 310]) rfl (by decide +kernel) rfl ?_
  refine Ev.callV0 mX3_fewestPairs [.ref 3] [] _ rfl lk_RX6_164 (by decide +kernel) (rfl) rfl rfl rfl (Nat.le_of_ble_eq_true rfl) (c_X3_fewestPairs I J A hC hW) ?_
  rintro _ _ ⟨rfl, I1, hq, rfl⟩
  show Ev _ _ _ _ _ 11 [some (.ref 0)] [.int (ob (kps A (2 ^ aN A)))] (zz_SH, I1, J) _
  exact Ev.iret rfl (by decide +kernel) (⟨rfl, I1, hq, rfl⟩)
