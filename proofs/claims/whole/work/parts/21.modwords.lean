/-! ===== the model: words ===== -/
def ctN (f : Nat → Nat) (v : Nat) : Nat → Nat
  | 0 => 0
  | n + 1 => ctN f v n + (if f n = v then 1 else 0)
theorem ctN_le (f : Nat → Nat) (v : Nat) : ∀ n, ctN f v n ≤ n
  | 0 => Nat.le_refl _
  | n + 1 => by have := ctN_le f v n; rw [ctN]; split <;> omega
def cF (A : zA) (p w : Nat) : Nat := ctN (ff A p) (97 + w) (fz A p)
def cG (A : zA) (p v : Nat) : Nat := ctN (gg A p) (65 + v) (gz A p)
theorem cF_le {A : zA} (hW : WF A) {p : Nat} (hp : p < aN A) (w : Nat) : cF A p w ≤ 12 := Nat.le_trans (ctN_le _ _ _) (hW.2.1 p hp).1.2.1
theorem cG_le {A : zA} (hW : WF A) {p : Nat} (hp : p < aN A) (w : Nat) : cG A p w ≤ 12 := Nat.le_trans (ctN_le _ _ _) (hW.2.1 p hp).1.2.2.2
theorem ob_eq {x : Option Nat} {v : Nat} (hv : v < 1000) (hx : ∀ q, x = some q → q < 1000) : ob x = nI v ↔ x = some v := by
  cases x with
  | none =>
    constructor
    · intro h
      exfalso
      have h1 := congrArg Int32.toInt h
      rw [nI_toInt (by omega)] at h1
      have h2 : (ob none).toInt = -6 := by decide
      omega
    · intro h; cases h
  | some q =>
    have := hx q rfl
    constructor
    · intro h
      rw [(nI_eq (by omega) (by omega)).mp h]
    · intro h; cases h; rfl
def ms (A : zA) (v : Nat) : Nat → Nat
  | 0 => 0
  | n + 1 => if ms A v n ≠ 0 ∨ mu A n = some v then 1 else 0
def due (A : zA) (p v : Nat) : Nat → Nat
  | 0 => 0
  | n + 1 => due A p v n + if mu A n = some v then cF A p n else 0
theorem ms_le (A : zA) (v : Nat) : ∀ n, ms A v n ≤ 1
  | 0 => Nat.zero_le 1
  | n + 1 => by rw [ms]; split <;> omega
theorem due_le {A : zA} (hW : WF A) {p : Nat} (hp : p < aN A) (v : Nat) : ∀ n, due A p v n ≤ 12 * n
  | 0 => Nat.le_refl _
  | n + 1 => by have := due_le hW hp v n; have := cF_le hW hp n; rw [due]; split <;> omega
def wb (A : zA) (p : Nat) : Nat → Nat
  | 0 => 0
  | n + 1 => if wb A p n ≠ 0 ∨ (ms A n 16 ≠ 0 ∧ due A p n 16 ≠ cG A p n) then 1 else 0
theorem wb_le (A : zA) (p : Nat) : ∀ n, wb A p n ≤ 1
  | 0 => Nat.zero_le 1
  | n + 1 => by rw [wb]; split <;> omega
theorem wb_01 (A : zA) (p n : Nat) : nI (wb A p n) = 0 ∨ nI (wb A p n) = 1 := by
  have := wb_le A p n
  rcases (show wb A p n = 0 ∨ wb A p n = 1 by omega) with e | e
  · rw [e]; exact Or.inl rfl
  · rw [e]; exact Or.inr rfl
def wrs (A : zA) : Nat → Nat
  | 0 => 0
  | n + 1 => wrs A n ||| (if wb A n 16 = 0 then 0 else 2 ^ n)
theorem wrs_lt (A : zA) : ∀ n, wrs A n < 2 ^ n
  | 0 => Nat.zero_lt_one
  | n + 1 => by
    have h := wrs_lt A n
    have h2 : (2 : Nat) ^ n < 2 ^ (n + 1) := zz_pw (Nat.lt_succ_self n)
    rw [wrs]
    split
    · rw [Nat.or_zero]; exact Nat.lt_trans h h2
    · exact zz_or_lt (Nat.lt_trans h h2) (Nat.lt_succ_self n)
def pbo (A : zA) (w v : Nat) : Nat → Nat
  | 0 => 0
  | n + 1 => pbo A w v n + if 0 < cF A n w ∧ 0 < cG A n v then 1 else 0
def pei (A : zA) (w v : Nat) : Nat → Nat
  | 0 => 0
  | n + 1 => pei A w v n + ((if 0 < cF A n w then 1 else 0) + if 0 < cG A n v then 1 else 0)
theorem pbo_le (A : zA) (w v : Nat) : ∀ n, pbo A w v n ≤ n
  | 0 => Nat.le_refl _
  | n + 1 => by have := pbo_le A w v n; rw [pbo]; split <;> omega
theorem pei_le (A : zA) (w v : Nat) : ∀ n, pei A w v n ≤ 2 * n
  | 0 => Nat.le_refl _
  | n + 1 => by have := pei_le A w v n; rw [pei]; split <;> split <;> omega
theorem pbo_pei (A : zA) (w v : Nat) : ∀ n, 2 * pbo A w v n ≤ pei A w v n
  | 0 => Nat.le_refl _
  | n + 1 => by
    have := pbo_pei A w v n
    rw [pbo, pei]
    by_cases h1 : 0 < cF A n w <;> by_cases h2 : 0 < cG A n v <;> simp only [h1, h2, and_self, and_true, and_false, if_true, if_false] <;> omega

set_option maxRecDepth 100000 in
set_option maxHeartbeats 4000000 in
theorem l_X7_inFirst {sc : Nat × (Nat → Int32)} {d : Nat} (I : Nat → Nat → Int32) (J : Nat → Nat → Int64) (A : zA) (hV : MV (zVm I) A) (hW : WF A) (p w : Nat) (hp : p < aN A) (hw : w < 16) : ∀ (μ : Nat) (j : Nat), fz A p - j < μ → (j ≤ fz A p) →  Ev sc (d) 0 0 mX7_inFirst 5 [some (.ref 359), some (.int (nI p)), some (.int (nI w)), some (.int (nI (ctN (ff A p) (97 + w) j))), some (.int (nI j))] [] (zz_SH, I, J) (zz_is (.int (nI (cF A p w))) (zz_SH, I, J)) := by
  intro μ
  induction μ with
  | zero => intro j hμ; exact absurd hμ (Nat.not_lt_zero _)
  | succ μ ih =>
    intro j hμ hj
    have w1 := hW.1.1
    have w2 := hW.1.2.1
    have z1 := (hW.2.1 p hp).1
    have c0 := ctN_le (ff A p) (97 + w) j
    refine Ev.run [(.iload 4, 2), (.aload_n 0, 1), (.getfield 16, 3), (.iload_n 1, 1)] (pc' := 12) (L' := [some (.ref 359), some (.int (nI p)), some (.int (nI w)), some (.int (nI (ctN (ff A p) (97 + w) j))), some (.int (nI j))]) (S' := [.int (nI p), .ref 362, .int (nI j)]) rfl (by decide +kernel) rfl ?_
    refine Ev.iald p (by decide +kernel) (rfl) (rfl) (by omega) (by first | decide | omega) ?_
    dsimp only
    rw [show I 362 p = nI (fz A p) from (hV.2.1 p hp).2.1]
    refine Ev.icmp_ge (off := 36) (tgt := 49) (by decide +kernel) (by decide) (fun h13 => ?_) (fun h13 => ?_)
    · have h13 : j ≥ (fz A p) := zz_bG_t (by omega) (by omega) h13
      have hjz : fz A p = j := by omega
      refine Ev.run [(.iload_n 3, 1)] (pc' := 50) (L' := [some (.ref 359), some (.int (nI p)), some (.int (nI w)), some (.int (nI (ctN (ff A p) (97 + w) j))), some (.int (nI j))]) (S' := [.int (nI (ctN (ff A p) (97 + w) j))]) rfl (by decide +kernel) rfl ?_
      exact Ev.iret rfl (by decide +kernel) (⟨by rw [cF, hjz], rfl⟩)
    · have h13 : j < (fz A p) := zz_bG_f (by omega) (by omega) h13
      have g1 := ((hW.2.1 p hp).2.1 j (by omega)).2
      refine Ev.run [(.iload_n 3, 1), (.aload_n 0, 1), (.getfield 22, 3), (.bipush 12, 2), (.iload_n 1, 1), (.imul, 1)] (pc' := 25) (L' := [some (.ref 359), some (.int (nI p)), some (.int (nI w)), some (.int (nI (ctN (ff A p) (97 + w) j))), some (.int (nI j))]) (S' := [.int (nI 12 * nI p), .ref 364, .int (nI (ctN (ff A p) (97 + w) j))]) rfl (by decide +kernel) rfl ?_
      rw [pk_mul 12 p]
      refine Ev.run [(.iload 4, 2), (.iadd, 1)] (pc' := 28) (L' := [some (.ref 359), some (.int (nI p)), some (.int (nI w)), some (.int (nI (ctN (ff A p) (97 + w) j))), some (.int (nI j))]) (S' := [.int (nI (12 * p) + nI j), .ref 364, .int (nI (ctN (ff A p) (97 + w) j))]) rfl (by decide +kernel) rfl ?_
      rw [nI_add (12 * p) j]
      refine Ev.iald ((12 * p) + j) (by decide +kernel) (rfl) (rfl) (by omega) (by first | decide | omega) ?_
      dsimp only
      rw [show I 364 (12 * p + j) = nI (ff A p j) from (hV.2.1 p hp).2.2.2.1 j (by omega)]
      refine Ev.run [(.bipush 97, 2), (.iload_n 2, 1), (.iadd, 1)] (pc' := 33) (L' := [some (.ref 359), some (.int (nI p)), some (.int (nI w)), some (.int (nI (ctN (ff A p) (97 + w) j))), some (.int (nI j))]) (S' := [.int (nI 97 + nI w), .int (nI (ff A p j)), .int (nI (ctN (ff A p) (97 + w) j))]) rfl (by decide +kernel) rfl ?_
      rw [nI_add 97 w]
      refine Ev.icmp_ne (off := 7) (tgt := 40) (by decide +kernel) (by decide) (fun h33 => ?_) (fun h33 => ?_)
      · have h33 : ¬ (ff A p j) = (97 + w) := zz_bE_f (by omega) (by omega) h33
        refine Ev.run [(.iconst 0, 1), (.iadd, 1)] (pc' := 42) (L' := [some (.ref 359), some (.int (nI p)), some (.int (nI w)), some (.int (nI (ctN (ff A p) (97 + w) j))), some (.int (nI j))]) (S' := [.int (nI (ctN (ff A p) (97 + w) j) + nI 0)]) rfl (by decide +kernel) rfl ?_
        rw [nI_add (ctN (ff A p) (97 + w) j) 0]
        refine Ev.run [(.istore_n 3, 1), (.iinc 4 1, 3)] (pc' := 46) (L' := [some (.ref 359), some (.int (nI p)), some (.int (nI w)), some (.int (nI ((ctN (ff A p) (97 + w) j) + 0))), some (.int (nI j + 1))]) (S' := []) rfl (by decide +kernel) rfl ?_
        rw [nI_1 j]
        refine Ev.goto (off := (-41)) (tgt := 5) (by decide +kernel) (by decide) ?_
        have h9 := ih (j + 1) (by omega) (by omega)
        rw [ctN, if_neg h33] at h9
        exact h9
      · have h33 : (ff A p j) = (97 + w) := zz_bE_t (by omega) (by omega) h33
        refine Ev.run [(.iconst 1, 1)] (pc' := 37) (L' := [some (.ref 359), some (.int (nI p)), some (.int (nI w)), some (.int (nI (ctN (ff A p) (97 + w) j))), some (.int (nI j))]) (S' := [.int (nI 1), .int (nI (ctN (ff A p) (97 + w) j))]) rfl (by decide +kernel) rfl ?_
        refine Ev.goto (off := 4) (tgt := 41) (by decide +kernel) (by decide) ?_
        refine Ev.run [(.iadd, 1)] (pc' := 42) (L' := [some (.ref 359), some (.int (nI p)), some (.int (nI w)), some (.int (nI (ctN (ff A p) (97 + w) j))), some (.int (nI j))]) (S' := [.int (nI (ctN (ff A p) (97 + w) j) + nI 1)]) rfl (by decide +kernel) rfl ?_
        rw [nI_add (ctN (ff A p) (97 + w) j) 1]
        refine Ev.run [(.istore_n 3, 1), (.iinc 4 1, 3)] (pc' := 46) (L' := [some (.ref 359), some (.int (nI p)), some (.int (nI w)), some (.int (nI ((ctN (ff A p) (97 + w) j) + 1))), some (.int (nI j + 1))]) (S' := []) rfl (by decide +kernel) rfl ?_
        rw [nI_1 j]
        refine Ev.goto (off := (-41)) (tgt := 5) (by decide +kernel) (by decide) ?_
        have h9 := ih (j + 1) (by omega) (by omega)
        rw [ctN, if_pos h33] at h9
        exact h9

set_option maxRecDepth 100000 in
set_option maxHeartbeats 4000000 in
theorem c_X7_inFirst {sc : Nat × (Nat → Int32)} {d : Nat} (I : Nat → Nat → Int32) (J : Nat → Nat → Int64) (A : zA) (hV : MV (zVm I) A) (hW : WF A) (p w : Nat) (hp : p < aN A) (hw : w < 16) : EvM sc (d) 0 0 mX7_inFirst [.ref 359, .int (nI p), .int (nI w)] (zz_SH, I, J) (zz_is (.int (nI (cF A p w))) (zz_SH, I, J)) := by
  have w1 := hW.1.1
  have w2 := hW.1.2.1
  refine EvM.of (by decide) rfl (Nat.le_of_ble_eq_true rfl) ?_
  show Ev _ _ _ _ _ 0 [some (.ref 359), some (.int (nI p)), some (.int (nI w)), none, none] [] (zz_SH, I, J) _
  refine Ev.run [(.iconst 0, 1), (.istore_n 3, 1), (.iconst 0, 1), (.istore 4, 2)] (pc' := 5) (L' := [some (.ref 359), some (.int (nI p)), some (.int (nI w)), some (.int (nI 0)), some (.int (nI 0))]) (S' := []) rfl (by decide +kernel) rfl ?_
  exact l_X7_inFirst I J A hV hW p w hp hw (fz A p + 1) 0 (by omega) (by omega)

set_option maxRecDepth 100000 in
set_option maxHeartbeats 4000000 in
theorem l_X7_inSecond {sc : Nat × (Nat → Int32)} {d : Nat} (I : Nat → Nat → Int32) (J : Nat → Nat → Int64) (A : zA) (hV : MV (zVm I) A) (hW : WF A) (p w : Nat) (hp : p < aN A) (hw : w < 16) : ∀ (μ : Nat) (j : Nat), gz A p - j < μ → (j ≤ gz A p) →  Ev sc (d) 0 0 mX7_inSecond 5 [some (.ref 359), some (.int (nI p)), some (.int (nI w)), some (.int (nI (ctN (gg A p) (65 + w) j))), some (.int (nI j))] [] (zz_SH, I, J) (zz_is (.int (nI (cG A p w))) (zz_SH, I, J)) := by
  intro μ
  induction μ with
  | zero => intro j hμ; exact absurd hμ (Nat.not_lt_zero _)
  | succ μ ih =>
    intro j hμ hj
    have w1 := hW.1.1
    have w2 := hW.1.2.1
    have z1 := (hW.2.1 p hp).1
    have c0 := ctN_le (gg A p) (65 + w) j
    refine Ev.run [(.iload 4, 2), (.aload_n 0, 1), (.getfield 19, 3), (.iload_n 1, 1)] (pc' := 12) (L' := [some (.ref 359), some (.int (nI p)), some (.int (nI w)), some (.int (nI (ctN (gg A p) (65 + w) j))), some (.int (nI j))]) (S' := [.int (nI p), .ref 363, .int (nI j)]) rfl (by decide +kernel) rfl ?_
    refine Ev.iald p (by decide +kernel) (rfl) (rfl) (by omega) (by first | decide | omega) ?_
    dsimp only
    rw [show I 363 p = nI (gz A p) from (hV.2.1 p hp).2.2.1]
    refine Ev.icmp_ge (off := 36) (tgt := 49) (by decide +kernel) (by decide) (fun h13 => ?_) (fun h13 => ?_)
    · have h13 : j ≥ (gz A p) := zz_bG_t (by omega) (by omega) h13
      have hjz : gz A p = j := by omega
      refine Ev.run [(.iload_n 3, 1)] (pc' := 50) (L' := [some (.ref 359), some (.int (nI p)), some (.int (nI w)), some (.int (nI (ctN (gg A p) (65 + w) j))), some (.int (nI j))]) (S' := [.int (nI (ctN (gg A p) (65 + w) j))]) rfl (by decide +kernel) rfl ?_
      exact Ev.iret rfl (by decide +kernel) (⟨by rw [cG, hjz], rfl⟩)
    · have h13 : j < (gz A p) := zz_bG_f (by omega) (by omega) h13
      have g1 := ((hW.2.1 p hp).2.2.1 j (by omega)).2
      refine Ev.run [(.iload_n 3, 1), (.aload_n 0, 1), (.getfield 25, 3), (.bipush 12, 2), (.iload_n 1, 1), (.imul, 1)] (pc' := 25) (L' := [some (.ref 359), some (.int (nI p)), some (.int (nI w)), some (.int (nI (ctN (gg A p) (65 + w) j))), some (.int (nI j))]) (S' := [.int (nI 12 * nI p), .ref 365, .int (nI (ctN (gg A p) (65 + w) j))]) rfl (by decide +kernel) rfl ?_
      rw [pk_mul 12 p]
      refine Ev.run [(.iload 4, 2), (.iadd, 1)] (pc' := 28) (L' := [some (.ref 359), some (.int (nI p)), some (.int (nI w)), some (.int (nI (ctN (gg A p) (65 + w) j))), some (.int (nI j))]) (S' := [.int (nI (12 * p) + nI j), .ref 365, .int (nI (ctN (gg A p) (65 + w) j))]) rfl (by decide +kernel) rfl ?_
      rw [nI_add (12 * p) j]
      refine Ev.iald ((12 * p) + j) (by decide +kernel) (rfl) (rfl) (by omega) (by first | decide | omega) ?_
      dsimp only
      rw [show I 365 (12 * p + j) = nI (gg A p j) from (hV.2.1 p hp).2.2.2.2 j (by omega)]
      refine Ev.run [(.bipush 65, 2), (.iload_n 2, 1), (.iadd, 1)] (pc' := 33) (L' := [some (.ref 359), some (.int (nI p)), some (.int (nI w)), some (.int (nI (ctN (gg A p) (65 + w) j))), some (.int (nI j))]) (S' := [.int (nI 65 + nI w), .int (nI (gg A p j)), .int (nI (ctN (gg A p) (65 + w) j))]) rfl (by decide +kernel) rfl ?_
      rw [nI_add 65 w]
      refine Ev.icmp_ne (off := 7) (tgt := 40) (by decide +kernel) (by decide) (fun h33 => ?_) (fun h33 => ?_)
      · have h33 : ¬ (gg A p j) = (65 + w) := zz_bE_f (by omega) (by omega) h33
        refine Ev.run [(.iconst 0, 1), (.iadd, 1)] (pc' := 42) (L' := [some (.ref 359), some (.int (nI p)), some (.int (nI w)), some (.int (nI (ctN (gg A p) (65 + w) j))), some (.int (nI j))]) (S' := [.int (nI (ctN (gg A p) (65 + w) j) + nI 0)]) rfl (by decide +kernel) rfl ?_
        rw [nI_add (ctN (gg A p) (65 + w) j) 0]
        refine Ev.run [(.istore_n 3, 1), (.iinc 4 1, 3)] (pc' := 46) (L' := [some (.ref 359), some (.int (nI p)), some (.int (nI w)), some (.int (nI ((ctN (gg A p) (65 + w) j) + 0))), some (.int (nI j + 1))]) (S' := []) rfl (by decide +kernel) rfl ?_
        rw [nI_1 j]
        refine Ev.goto (off := (-41)) (tgt := 5) (by decide +kernel) (by decide) ?_
        have h9 := ih (j + 1) (by omega) (by omega)
        rw [ctN, if_neg h33] at h9
        exact h9
      · have h33 : (gg A p j) = (65 + w) := zz_bE_t (by omega) (by omega) h33
        refine Ev.run [(.iconst 1, 1)] (pc' := 37) (L' := [some (.ref 359), some (.int (nI p)), some (.int (nI w)), some (.int (nI (ctN (gg A p) (65 + w) j))), some (.int (nI j))]) (S' := [.int (nI 1), .int (nI (ctN (gg A p) (65 + w) j))]) rfl (by decide +kernel) rfl ?_
        refine Ev.goto (off := 4) (tgt := 41) (by decide +kernel) (by decide) ?_
        refine Ev.run [(.iadd, 1)] (pc' := 42) (L' := [some (.ref 359), some (.int (nI p)), some (.int (nI w)), some (.int (nI (ctN (gg A p) (65 + w) j))), some (.int (nI j))]) (S' := [.int (nI (ctN (gg A p) (65 + w) j) + nI 1)]) rfl (by decide +kernel) rfl ?_
        rw [nI_add (ctN (gg A p) (65 + w) j) 1]
        refine Ev.run [(.istore_n 3, 1), (.iinc 4 1, 3)] (pc' := 46) (L' := [some (.ref 359), some (.int (nI p)), some (.int (nI w)), some (.int (nI ((ctN (gg A p) (65 + w) j) + 1))), some (.int (nI j + 1))]) (S' := []) rfl (by decide +kernel) rfl ?_
        rw [nI_1 j]
        refine Ev.goto (off := (-41)) (tgt := 5) (by decide +kernel) (by decide) ?_
        have h9 := ih (j + 1) (by omega) (by omega)
        rw [ctN, if_pos h33] at h9
        exact h9

set_option maxRecDepth 100000 in
set_option maxHeartbeats 4000000 in
theorem c_X7_inSecond {sc : Nat × (Nat → Int32)} {d : Nat} (I : Nat → Nat → Int32) (J : Nat → Nat → Int64) (A : zA) (hV : MV (zVm I) A) (hW : WF A) (p w : Nat) (hp : p < aN A) (hw : w < 16) : EvM sc (d) 0 0 mX7_inSecond [.ref 359, .int (nI p), .int (nI w)] (zz_SH, I, J) (zz_is (.int (nI (cG A p w))) (zz_SH, I, J)) := by
  have w1 := hW.1.1
  have w2 := hW.1.2.1
  refine EvM.of (by decide) rfl (Nat.le_of_ble_eq_true rfl) ?_
  show Ev _ _ _ _ _ 0 [some (.ref 359), some (.int (nI p)), some (.int (nI w)), none, none] [] (zz_SH, I, J) _
  refine Ev.run [(.iconst 0, 1), (.istore_n 3, 1), (.iconst 0, 1), (.istore 4, 2)] (pc' := 5) (L' := [some (.ref 359), some (.int (nI p)), some (.int (nI w)), some (.int (nI 0)), some (.int (nI 0))]) (S' := []) rfl (by decide +kernel) rfl ?_
  exact l_X7_inSecond I J A hV hW p w hp hw (gz A p + 1) 0 (by omega) (by omega)

set_option maxRecDepth 100000 in
set_option maxHeartbeats 4000000 in
theorem l_X7_iw1 {sc : Nat × (Nat → Int32)} {d : Nat} (I : Nat → Nat → Int32) (J : Nat → Nat → Int64) (A : zA) (hV : MV (zVm I) A) (hW : WF A) (p : Nat) (hp : p < aN A) (v : Nat) (hv : v < 16) (hout : Ev sc (d + 1) 0 0 mX7_isWrong 82 [some (.ref 359), some (.int (nI p)), some (.int (nI (wb A p v))), some (.int (nI v)), some (.int (nI (due A p v 16))), some (.int (nI (ms A v 16))), none] [] (zz_SH, I, J) (zz_is (.int (nI (wb A p 16))) (zz_SH, I, J))) : ∀ (μ : Nat) (w : Nat), 16 - w < μ → (w ≤ 16) →  Ev sc (d + 1) 0 0 mX7_isWrong 19 [some (.ref 359), some (.int (nI p)), some (.int (nI (wb A p v))), some (.int (nI v)), some (.int (nI (due A p v w))), some (.int (nI (ms A v w))), some (.int (nI w))] [] (zz_SH, I, J) (zz_is (.int (nI (wb A p 16))) (zz_SH, I, J)) := by
  intro μ
  induction μ with
  | zero => intro w hμ; exact absurd hμ (Nat.not_lt_zero _)
  | succ μ ih =>
    intro w hμ hw
    have w1 := hW.1.1
    have w2 := hW.1.2.1
    have c1 := ms_le A v w
    have c2 := due_le hW hp v w
    refine Ev.run [(.iload 6, 2), (.bipush 16, 2)] (pc' := 23) (L' := [some (.ref 359), some (.int (nI p)), some (.int (nI (wb A p v))), some (.int (nI v)), some (.int (nI (due A p v w))), some (.int (nI (ms A v w))), some (.int (nI w))]) (S' := [.int (nI 16), .int (nI w)]) rfl (by decide +kernel) rfl ?_
    refine Ev.icmp_ge (off := 59) (tgt := 82) (by decide +kernel) (by decide) (fun h23 => ?_) (fun h23 => ?_)
    · have h23 : w ≥ 16 := zz_bG_t (by omega) (by omega) h23
      have hw16 : w = 16 := by omega
      refine Ev.weakL (L' := [some (.ref 359), some (.int (nI p)), some (.int (nI (wb A p v))), some (.int (nI v)), some (.int (nI (due A p v w))), some (.int (nI (ms A v w))), none]) ⟨rfl, rfl, rfl, rfl, rfl, rfl, trivial⟩ ?_
      rw [hw16]
      exact hout
    · have h23 : w < 16 := zz_bG_f (by omega) (by omega) h23
      refine Ev.run [(.iload 5, 2)] (pc' := 28) (L' := [some (.ref 359), some (.int (nI p)), some (.int (nI (wb A p v))), some (.int (nI v)), some (.int (nI (due A p v w))), some (.int (nI (ms A v w))), some (.int (nI w))]) (S' := [.int (nI (ms A v w))]) rfl (by decide +kernel) rfl ?_
      refine Ev.if_ne (off := 14) (tgt := 42) (by decide +kernel) (by decide) (fun h28 => ?_) (fun h28 => ?_)
      · have h28 : ¬ (ms A v w) = 0 := zz_bE_f (by omega) (by omega) h28
        refine Ev.run [(.iconst 1, 1)] (pc' := 43) (L' := [some (.ref 359), some (.int (nI p)), some (.int (nI (wb A p v))), some (.int (nI v)), some (.int (nI (due A p v w))), some (.int (nI (ms A v w))), some (.int (nI w))]) (S' := [.int (nI 1)]) rfl (by decide +kernel) rfl ?_
        refine Ev.goto (off := 4) (tgt := 47) (by decide +kernel) (by decide) ?_
        refine Ev.run [(.istore 5, 2), (.iload 4, 2), (.aload_n 0, 1), (.getfield 37, 3), (.iload 6, 2)] (pc' := 57) (L' := [some (.ref 359), some (.int (nI p)), some (.int (nI (wb A p v))), some (.int (nI v)), some (.int (nI (due A p v w))), some (.int (nI 1)), some (.int (nI w))]) (S' := [.int (nI w), .ref 369, .int (nI (due A p v w))]) rfl (by decide +kernel) rfl ?_
        refine Ev.iald w (by decide +kernel) (rfl) (rfl) (by omega) (by first | decide | omega) ?_
        dsimp only
        rw [show I 369 w = ob (mu A w) from hV.2.2.2.2.1 w (by omega)]
        refine Ev.run [(.iload_n 3, 1)] (pc' := 59) (L' := [some (.ref 359), some (.int (nI p)), some (.int (nI (wb A p v))), some (.int (nI v)), some (.int (nI (due A p v w))), some (.int (nI 1)), some (.int (nI w))]) (S' := [.int (nI v), .int (ob (mu A w)), .int (nI (due A p v w))]) rfl (by decide +kernel) rfl ?_
        refine Ev.icmp_ne (off := 13) (tgt := 72) (by decide +kernel) (by decide) (fun h59 => ?_) (fun h59 => ?_)
        · refine Ev.run [(.iconst 0, 1), (.iadd, 1)] (pc' := 74) (L' := [some (.ref 359), some (.int (nI p)), some (.int (nI (wb A p v))), some (.int (nI v)), some (.int (nI (due A p v w))), some (.int (nI 1)), some (.int (nI w))]) (S' := [.int (nI (due A p v w) + nI 0)]) rfl (by decide +kernel) rfl ?_
          rw [nI_add (due A p v w) 0]
          refine Ev.run [(.istore 4, 2), (.iinc 6 1, 3)] (pc' := 79) (L' := [some (.ref 359), some (.int (nI p)), some (.int (nI (wb A p v))), some (.int (nI v)), some (.int (nI ((due A p v w) + 0))), some (.int (nI 1)), some (.int (nI w + 1))]) (S' := []) rfl (by decide +kernel) rfl ?_
          rw [nI_1 w]
          refine Ev.goto (off := (-60)) (tgt := 19) (by decide +kernel) (by decide) ?_
          have h9 := ih (w + 1) (by omega) (by omega)
          rw [ms, if_pos (Or.inl h28)] at h9
          rw [due, if_neg (fun q => h59 ((ob_eq (x := mu A w) (v := v) (by omega) (fun q hq => by have := hW.2.2.2.2.1 w (by omega) q hq; omega)).mpr q))] at h9
          exact h9
        · refine Ev.run [(.aload_n 0, 1), (.iload_n 1, 1), (.iload 6, 2)] (pc' := 66) (L' := [some (.ref 359), some (.int (nI p)), some (.int (nI (wb A p v))), some (.int (nI v)), some (.int (nI (due A p v w))), some (.int (nI 1)), some (.int (nI w))]) (S' := [.int (nI w), .int (nI p), .ref 359, .int (nI (due A p v w))]) rfl (by decide +kernel) rfl ?_
          refine Ev.callV0 mX7_inFirst [.int (nI p), .int (nI w)] [.int (nI (due A p v w))] _ rfl lk_RX7_165 (by decide +kernel) (rfl) rfl rfl rfl (Nat.le_of_ble_eq_true rfl) (c_X7_inFirst I J A hV hW p w hp (by omega)) ?_
          rintro _ _ ⟨rfl, rfl⟩
          have c9 := cF_le hW hp w
          show Ev _ _ _ _ _ 69 [some (.ref 359), some (.int (nI p)), some (.int (nI (wb A p v))), some (.int (nI v)), some (.int (nI (due A p v w))), some (.int (nI 1)), some (.int (nI w))] [.int (nI (cF A p w)), .int (nI (due A p v w))] (zz_SH, I, J) _
          refine Ev.goto (off := 4) (tgt := 73) (by decide +kernel) (by decide) ?_
          refine Ev.run [(.iadd, 1)] (pc' := 74) (L' := [some (.ref 359), some (.int (nI p)), some (.int (nI (wb A p v))), some (.int (nI v)), some (.int (nI (due A p v w))), some (.int (nI 1)), some (.int (nI w))]) (S' := [.int (nI (due A p v w) + nI (cF A p w))]) rfl (by decide +kernel) rfl ?_
          rw [nI_add (due A p v w) (cF A p w)]
          refine Ev.run [(.istore 4, 2), (.iinc 6 1, 3)] (pc' := 79) (L' := [some (.ref 359), some (.int (nI p)), some (.int (nI (wb A p v))), some (.int (nI v)), some (.int (nI ((due A p v w) + (cF A p w)))), some (.int (nI 1)), some (.int (nI w + 1))]) (S' := []) rfl (by decide +kernel) rfl ?_
          rw [nI_1 w]
          refine Ev.goto (off := (-60)) (tgt := 19) (by decide +kernel) (by decide) ?_
          have h9 := ih (w + 1) (by omega) (by omega)
          rw [ms, if_pos (Or.inl h28)] at h9
          rw [due, if_pos ((ob_eq (x := mu A w) (v := v) (by omega) (fun q hq => by have := hW.2.2.2.2.1 w (by omega) q hq; omega)).mp h59)] at h9
          exact h9
      · have h28 : (ms A v w) = 0 := zz_bE_t (by omega) (by omega) h28
        refine Ev.run [(.aload_n 0, 1), (.getfield 37, 3), (.iload 6, 2)] (pc' := 37) (L' := [some (.ref 359), some (.int (nI p)), some (.int (nI (wb A p v))), some (.int (nI v)), some (.int (nI (due A p v w))), some (.int (nI (ms A v w))), some (.int (nI w))]) (S' := [.int (nI w), .ref 369]) rfl (by decide +kernel) rfl ?_
        refine Ev.iald w (by decide +kernel) (rfl) (rfl) (by omega) (by first | decide | omega) ?_
        dsimp only
        rw [show I 369 w = ob (mu A w) from hV.2.2.2.2.1 w (by omega)]
        refine Ev.run [(.iload_n 3, 1)] (pc' := 39) (L' := [some (.ref 359), some (.int (nI p)), some (.int (nI (wb A p v))), some (.int (nI v)), some (.int (nI (due A p v w))), some (.int (nI (ms A v w))), some (.int (nI w))]) (S' := [.int (nI v), .int (ob (mu A w))]) rfl (by decide +kernel) rfl ?_
        refine Ev.icmp_ne (off := 7) (tgt := 46) (by decide +kernel) (by decide) (fun h39 => ?_) (fun h39 => ?_)
        · refine Ev.run [(.iconst 0, 1), (.istore 5, 2), (.iload 4, 2), (.aload_n 0, 1), (.getfield 37, 3), (.iload 6, 2)] (pc' := 57) (L' := [some (.ref 359), some (.int (nI p)), some (.int (nI (wb A p v))), some (.int (nI v)), some (.int (nI (due A p v w))), some (.int (nI 0)), some (.int (nI w))]) (S' := [.int (nI w), .ref 369, .int (nI (due A p v w))]) rfl (by decide +kernel) rfl ?_
          refine Ev.iald w (by decide +kernel) (rfl) (rfl) (by omega) (by first | decide | omega) ?_
          dsimp only
          rw [show I 369 w = ob (mu A w) from hV.2.2.2.2.1 w (by omega)]
          refine Ev.run [(.iload_n 3, 1)] (pc' := 59) (L' := [some (.ref 359), some (.int (nI p)), some (.int (nI (wb A p v))), some (.int (nI v)), some (.int (nI (due A p v w))), some (.int (nI 0)), some (.int (nI w))]) (S' := [.int (nI v), .int (ob (mu A w)), .int (nI (due A p v w))]) rfl (by decide +kernel) rfl ?_
          refine Ev.icmp_ne (off := 13) (tgt := 72) (by decide +kernel) (by decide) (fun h59 => ?_) (fun h59 => ?_)
          · refine Ev.run [(.iconst 0, 1), (.iadd, 1)] (pc' := 74) (L' := [some (.ref 359), some (.int (nI p)), some (.int (nI (wb A p v))), some (.int (nI v)), some (.int (nI (due A p v w))), some (.int (nI 0)), some (.int (nI w))]) (S' := [.int (nI (due A p v w) + nI 0)]) rfl (by decide +kernel) rfl ?_
            rw [nI_add (due A p v w) 0]
            refine Ev.run [(.istore 4, 2), (.iinc 6 1, 3)] (pc' := 79) (L' := [some (.ref 359), some (.int (nI p)), some (.int (nI (wb A p v))), some (.int (nI v)), some (.int (nI ((due A p v w) + 0))), some (.int (nI 0)), some (.int (nI w + 1))]) (S' := []) rfl (by decide +kernel) rfl ?_
            rw [nI_1 w]
            refine Ev.goto (off := (-60)) (tgt := 19) (by decide +kernel) (by decide) ?_
            have h9 := ih (w + 1) (by omega) (by omega)
            rw [ms, if_neg (fun q => q.elim (fun q => q h28) (fun q => h39 ((ob_eq (x := mu A w) (v := v) (by omega) (fun q hq => by have := hW.2.2.2.2.1 w (by omega) q hq; omega)).mpr q)))] at h9
            rw [due, if_neg (fun q => h59 ((ob_eq (x := mu A w) (v := v) (by omega) (fun q hq => by have := hW.2.2.2.2.1 w (by omega) q hq; omega)).mpr q))] at h9
            exact h9
          · refine Ev.run [(.aload_n 0, 1), (.iload_n 1, 1), (.iload 6, 2)] (pc' := 66) (L' := [some (.ref 359), some (.int (nI p)), some (.int (nI (wb A p v))), some (.int (nI v)), some (.int (nI (due A p v w))), some (.int (nI 0)), some (.int (nI w))]) (S' := [.int (nI w), .int (nI p), .ref 359, .int (nI (due A p v w))]) rfl (by decide +kernel) rfl ?_
            refine Ev.callV0 mX7_inFirst [.int (nI p), .int (nI w)] [.int (nI (due A p v w))] _ rfl lk_RX7_165 (by decide +kernel) (rfl) rfl rfl rfl (Nat.le_of_ble_eq_true rfl) (c_X7_inFirst I J A hV hW p w hp (by omega)) ?_
            rintro _ _ ⟨rfl, rfl⟩
            have c9 := cF_le hW hp w
            show Ev _ _ _ _ _ 69 [some (.ref 359), some (.int (nI p)), some (.int (nI (wb A p v))), some (.int (nI v)), some (.int (nI (due A p v w))), some (.int (nI 0)), some (.int (nI w))] [.int (nI (cF A p w)), .int (nI (due A p v w))] (zz_SH, I, J) _
            refine Ev.goto (off := 4) (tgt := 73) (by decide +kernel) (by decide) ?_
            refine Ev.run [(.iadd, 1)] (pc' := 74) (L' := [some (.ref 359), some (.int (nI p)), some (.int (nI (wb A p v))), some (.int (nI v)), some (.int (nI (due A p v w))), some (.int (nI 0)), some (.int (nI w))]) (S' := [.int (nI (due A p v w) + nI (cF A p w))]) rfl (by decide +kernel) rfl ?_
            rw [nI_add (due A p v w) (cF A p w)]
            refine Ev.run [(.istore 4, 2), (.iinc 6 1, 3)] (pc' := 79) (L' := [some (.ref 359), some (.int (nI p)), some (.int (nI (wb A p v))), some (.int (nI v)), some (.int (nI ((due A p v w) + (cF A p w)))), some (.int (nI 0)), some (.int (nI w + 1))]) (S' := []) rfl (by decide +kernel) rfl ?_
            rw [nI_1 w]
            refine Ev.goto (off := (-60)) (tgt := 19) (by decide +kernel) (by decide) ?_
            have h9 := ih (w + 1) (by omega) (by omega)
            rw [ms, if_neg (fun q => q.elim (fun q => q h28) (fun q => h39 ((ob_eq (x := mu A w) (v := v) (by omega) (fun q hq => by have := hW.2.2.2.2.1 w (by omega) q hq; omega)).mpr q)))] at h9
            rw [due, if_pos ((ob_eq (x := mu A w) (v := v) (by omega) (fun q hq => by have := hW.2.2.2.2.1 w (by omega) q hq; omega)).mp h59)] at h9
            exact h9
        · refine Ev.run [(.iconst 1, 1)] (pc' := 43) (L' := [some (.ref 359), some (.int (nI p)), some (.int (nI (wb A p v))), some (.int (nI v)), some (.int (nI (due A p v w))), some (.int (nI (ms A v w))), some (.int (nI w))]) (S' := [.int (nI 1)]) rfl (by decide +kernel) rfl ?_
          refine Ev.goto (off := 4) (tgt := 47) (by decide +kernel) (by decide) ?_
          refine Ev.run [(.istore 5, 2), (.iload 4, 2), (.aload_n 0, 1), (.getfield 37, 3), (.iload 6, 2)] (pc' := 57) (L' := [some (.ref 359), some (.int (nI p)), some (.int (nI (wb A p v))), some (.int (nI v)), some (.int (nI (due A p v w))), some (.int (nI 1)), some (.int (nI w))]) (S' := [.int (nI w), .ref 369, .int (nI (due A p v w))]) rfl (by decide +kernel) rfl ?_
          refine Ev.iald w (by decide +kernel) (rfl) (rfl) (by omega) (by first | decide | omega) ?_
          dsimp only
          rw [show I 369 w = ob (mu A w) from hV.2.2.2.2.1 w (by omega)]
          refine Ev.run [(.iload_n 3, 1)] (pc' := 59) (L' := [some (.ref 359), some (.int (nI p)), some (.int (nI (wb A p v))), some (.int (nI v)), some (.int (nI (due A p v w))), some (.int (nI 1)), some (.int (nI w))]) (S' := [.int (nI v), .int (ob (mu A w)), .int (nI (due A p v w))]) rfl (by decide +kernel) rfl ?_
          refine Ev.icmp_ne (off := 13) (tgt := 72) (by decide +kernel) (by decide) (fun h59 => ?_) (fun h59 => ?_)
          · refine Ev.run [(.iconst 0, 1), (.iadd, 1)] (pc' := 74) (L' := [some (.ref 359), some (.int (nI p)), some (.int (nI (wb A p v))), some (.int (nI v)), some (.int (nI (due A p v w))), some (.int (nI 1)), some (.int (nI w))]) (S' := [.int (nI (due A p v w) + nI 0)]) rfl (by decide +kernel) rfl ?_
            rw [nI_add (due A p v w) 0]
            refine Ev.run [(.istore 4, 2), (.iinc 6 1, 3)] (pc' := 79) (L' := [some (.ref 359), some (.int (nI p)), some (.int (nI (wb A p v))), some (.int (nI v)), some (.int (nI ((due A p v w) + 0))), some (.int (nI 1)), some (.int (nI w + 1))]) (S' := []) rfl (by decide +kernel) rfl ?_
            rw [nI_1 w]
            refine Ev.goto (off := (-60)) (tgt := 19) (by decide +kernel) (by decide) ?_
            have h9 := ih (w + 1) (by omega) (by omega)
            rw [ms, if_pos (Or.inr ((ob_eq (x := mu A w) (v := v) (by omega) (fun q hq => by have := hW.2.2.2.2.1 w (by omega) q hq; omega)).mp h39))] at h9
            rw [due, if_neg (fun q => h59 ((ob_eq (x := mu A w) (v := v) (by omega) (fun q hq => by have := hW.2.2.2.2.1 w (by omega) q hq; omega)).mpr q))] at h9
            exact h9
          · refine Ev.run [(.aload_n 0, 1), (.iload_n 1, 1), (.iload 6, 2)] (pc' := 66) (L' := [some (.ref 359), some (.int (nI p)), some (.int (nI (wb A p v))), some (.int (nI v)), some (.int (nI (due A p v w))), some (.int (nI 1)), some (.int (nI w))]) (S' := [.int (nI w), .int (nI p), .ref 359, .int (nI (due A p v w))]) rfl (by decide +kernel) rfl ?_
            refine Ev.callV0 mX7_inFirst [.int (nI p), .int (nI w)] [.int (nI (due A p v w))] _ rfl lk_RX7_165 (by decide +kernel) (rfl) rfl rfl rfl (Nat.le_of_ble_eq_true rfl) (c_X7_inFirst I J A hV hW p w hp (by omega)) ?_
            rintro _ _ ⟨rfl, rfl⟩
            have c9 := cF_le hW hp w
            show Ev _ _ _ _ _ 69 [some (.ref 359), some (.int (nI p)), some (.int (nI (wb A p v))), some (.int (nI v)), some (.int (nI (due A p v w))), some (.int (nI 1)), some (.int (nI w))] [.int (nI (cF A p w)), .int (nI (due A p v w))] (zz_SH, I, J) _
            refine Ev.goto (off := 4) (tgt := 73) (by decide +kernel) (by decide) ?_
            refine Ev.run [(.iadd, 1)] (pc' := 74) (L' := [some (.ref 359), some (.int (nI p)), some (.int (nI (wb A p v))), some (.int (nI v)), some (.int (nI (due A p v w))), some (.int (nI 1)), some (.int (nI w))]) (S' := [.int (nI (due A p v w) + nI (cF A p w))]) rfl (by decide +kernel) rfl ?_
            rw [nI_add (due A p v w) (cF A p w)]
            refine Ev.run [(.istore 4, 2), (.iinc 6 1, 3)] (pc' := 79) (L' := [some (.ref 359), some (.int (nI p)), some (.int (nI (wb A p v))), some (.int (nI v)), some (.int (nI ((due A p v w) + (cF A p w)))), some (.int (nI 1)), some (.int (nI w + 1))]) (S' := []) rfl (by decide +kernel) rfl ?_
            rw [nI_1 w]
            refine Ev.goto (off := (-60)) (tgt := 19) (by decide +kernel) (by decide) ?_
            have h9 := ih (w + 1) (by omega) (by omega)
            rw [ms, if_pos (Or.inr ((ob_eq (x := mu A w) (v := v) (by omega) (fun q hq => by have := hW.2.2.2.2.1 w (by omega) q hq; omega)).mp h39))] at h9
            rw [due, if_pos ((ob_eq (x := mu A w) (v := v) (by omega) (fun q hq => by have := hW.2.2.2.2.1 w (by omega) q hq; omega)).mp h59)] at h9
            exact h9

set_option maxRecDepth 100000 in
set_option maxHeartbeats 4000000 in
theorem l_X7_iw2 {sc : Nat × (Nat → Int32)} {d : Nat} (I : Nat → Nat → Int32) (J : Nat → Nat → Int64) (A : zA) (hV : MV (zVm I) A) (hW : WF A) (p : Nat) (hp : p < aN A) : ∀ (μ : Nat) (v : Nat), 16 - v < μ → (v ≤ 16) →  Ev sc (d + 1) 0 0 mX7_isWrong 4 [some (.ref 359), some (.int (nI p)), some (.int (nI (wb A p v))), some (.int (nI v)), none, none, none] [] (zz_SH, I, J) (zz_is (.int (nI (wb A p 16))) (zz_SH, I, J)) := by
  intro μ
  induction μ with
  | zero => intro v hμ; exact absurd hμ (Nat.not_lt_zero _)
  | succ μ ih =>
    intro v hμ hv
    have w1 := hW.1.1
    have w2 := hW.1.2.1
    have c1 := wb_le A p v
    refine Ev.run [(.iload_n 3, 1), (.bipush 16, 2)] (pc' := 7) (L' := [some (.ref 359), some (.int (nI p)), some (.int (nI (wb A p v))), some (.int (nI v)), none, none, none]) (S' := [.int (nI 16), .int (nI v)]) rfl (by decide +kernel) rfl ?_
    refine Ev.icmp_ge (off := 107) (tgt := 114) (by decide +kernel) (by decide) (fun h7 => ?_) (fun h7 => ?_)
    · have h7 : v ≥ 16 := zz_bG_t (by omega) (by omega) h7
      have hv16 : v = 16 := by omega
      refine Ev.run [(.iload_n 2, 1)] (pc' := 115) (L' := [some (.ref 359), some (.int (nI p)), some (.int (nI (wb A p v))), some (.int (nI v)), none, none, none]) (S' := [.int (nI (wb A p v))]) rfl (by decide +kernel) rfl ?_
      exact Ev.zret rfl (by decide +kernel) (wb_01 A p v) (⟨by rw [hv16], rfl⟩)
    · have h7 : v < 16 := zz_bG_f (by omega) (by omega) h7
      refine Ev.run [(.iconst 0, 1), (.istore 4, 2), (.iconst 0, 1), (.istore 5, 2), (.iconst 0, 1), (.istore 6, 2)] (pc' := 19) (L' := [some (.ref 359), some (.int (nI p)), some (.int (nI (wb A p v))), some (.int (nI v)), some (.int (nI 0)), some (.int (nI 0)), some (.int (nI 0))]) (S' := []) rfl (by decide +kernel) rfl ?_
      refine l_X7_iw1 I J A hV hW p hp v (by omega) ?_ 17 0 (by omega) (by omega)
      show Ev _ _ _ _ _ 82 [some (.ref 359), some (.int (nI p)), some (.int (nI (wb A p v))), some (.int (nI v)), some (.int (nI (due A p v 16))), some (.int (nI (ms A v 16))), none] [] (zz_SH, I, J) _
      refine Ev.run [(.iload_n 2, 1)] (pc' := 83) (L' := [some (.ref 359), some (.int (nI p)), some (.int (nI (wb A p v))), some (.int (nI v)), some (.int (nI (due A p v 16))), some (.int (nI (ms A v 16))), none]) (S' := [.int (nI (wb A p v))]) rfl (by decide +kernel) rfl ?_
      have c3 := ms_le A v 16
      have c4 := due_le hW hp v 16
      refine Ev.if_ne (off := 19) (tgt := 102) (by decide +kernel) (by decide) (fun h83 => ?_) (fun h83 => ?_)
      · have h83 : ¬ (wb A p v) = 0 := zz_bE_f (by omega) (by omega) h83
        refine Ev.run [(.iconst 1, 1)] (pc' := 103) (L' := [some (.ref 359), some (.int (nI p)), some (.int (nI (wb A p v))), some (.int (nI v)), some (.int (nI (due A p v 16))), some (.int (nI (ms A v 16))), none]) (S' := [.int (nI 1)]) rfl (by decide +kernel) rfl ?_
        refine Ev.goto (off := 4) (tgt := 107) (by decide +kernel) (by decide) ?_
        refine Ev.run [(.istore_n 2, 1), (.iinc 3 1, 3)] (pc' := 111) (L' := [some (.ref 359), some (.int (nI p)), some (.int (nI 1)), some (.int (nI v + 1)), some (.int (nI (due A p v 16))), some (.int (nI (ms A v 16))), none]) (S' := []) rfl (by decide +kernel) rfl ?_
        rw [nI_1 v]
        refine Ev.goto (off := (-107)) (tgt := 4) (by decide +kernel) (by decide) ?_
        refine Ev.weakL (L' := [some (.ref 359), some (.int (nI p)), some (.int (nI 1)), some (.int (nI (v + 1))), none, none, none]) ⟨rfl, rfl, rfl, rfl, trivial⟩ ?_
        have h9 := ih (v + 1) (by omega) (by omega)
        rw [wb, if_pos (Or.inl h83)] at h9
        exact h9
      · have h83 : (wb A p v) = 0 := zz_bE_t (by omega) (by omega) h83
        refine Ev.run [(.iload 5, 2)] (pc' := 88) (L' := [some (.ref 359), some (.int (nI p)), some (.int (nI (wb A p v))), some (.int (nI v)), some (.int (nI (due A p v 16))), some (.int (nI (ms A v 16))), none]) (S' := [.int (nI (ms A v 16))]) rfl (by decide +kernel) rfl ?_
        refine Ev.if_eq (off := 18) (tgt := 106) (by decide +kernel) (by decide) (fun h88 => ?_) (fun h88 => ?_)
        · have h88 : (ms A v 16) = 0 := zz_bE_t (by omega) (by omega) h88
          refine Ev.run [(.iconst 0, 1), (.istore_n 2, 1), (.iinc 3 1, 3)] (pc' := 111) (L' := [some (.ref 359), some (.int (nI p)), some (.int (nI 0)), some (.int (nI v + 1)), some (.int (nI (due A p v 16))), some (.int (nI (ms A v 16))), none]) (S' := []) rfl (by decide +kernel) rfl ?_
          rw [nI_1 v]
          refine Ev.goto (off := (-107)) (tgt := 4) (by decide +kernel) (by decide) ?_
          refine Ev.weakL (L' := [some (.ref 359), some (.int (nI p)), some (.int (nI 0)), some (.int (nI (v + 1))), none, none, none]) ⟨rfl, rfl, rfl, rfl, trivial⟩ ?_
          have h9 := ih (v + 1) (by omega) (by omega)
          rw [wb, if_neg (fun q => q.elim (fun q => q h83) (fun q => q.1 h88))] at h9
          exact h9
        · have h88 : ¬ (ms A v 16) = 0 := zz_bE_f (by omega) (by omega) h88
          refine Ev.run [(.iload 4, 2), (.aload_n 0, 1), (.iload_n 1, 1), (.iload_n 3, 1)] (pc' := 96) (L' := [some (.ref 359), some (.int (nI p)), some (.int (nI (wb A p v))), some (.int (nI v)), some (.int (nI (due A p v 16))), some (.int (nI (ms A v 16))), none]) (S' := [.int (nI v), .int (nI p), .ref 359, .int (nI (due A p v 16))]) rfl (by decide +kernel) rfl ?_
          refine Ev.callV0 mX7_inSecond [.int (nI p), .int (nI v)] [.int (nI (due A p v 16))] _ rfl lk_RX7_168 (by decide +kernel) (rfl) rfl rfl rfl (Nat.le_of_ble_eq_true rfl) (c_X7_inSecond I J A hV hW p v hp (by omega)) ?_
          rintro _ _ ⟨rfl, rfl⟩
          have c9 := cG_le hW hp v
          show Ev _ _ _ _ _ 99 [some (.ref 359), some (.int (nI p)), some (.int (nI (wb A p v))), some (.int (nI v)), some (.int (nI (due A p v 16))), some (.int (nI (ms A v 16))), none] [.int (nI (cG A p v)), .int (nI (due A p v 16))] (zz_SH, I, J) _
          refine Ev.icmp_eq (off := 7) (tgt := 106) (by decide +kernel) (by decide) (fun h99 => ?_) (fun h99 => ?_)
          · have h99 : (due A p v 16) = (cG A p v) := zz_bE_t (by omega) (by omega) h99
            refine Ev.run [(.iconst 0, 1), (.istore_n 2, 1), (.iinc 3 1, 3)] (pc' := 111) (L' := [some (.ref 359), some (.int (nI p)), some (.int (nI 0)), some (.int (nI v + 1)), some (.int (nI (due A p v 16))), some (.int (nI (ms A v 16))), none]) (S' := []) rfl (by decide +kernel) rfl ?_
            rw [nI_1 v]
            refine Ev.goto (off := (-107)) (tgt := 4) (by decide +kernel) (by decide) ?_
            refine Ev.weakL (L' := [some (.ref 359), some (.int (nI p)), some (.int (nI 0)), some (.int (nI (v + 1))), none, none, none]) ⟨rfl, rfl, rfl, rfl, trivial⟩ ?_
            have h9 := ih (v + 1) (by omega) (by omega)
            rw [wb, if_neg (fun q => q.elim (fun q => q h83) (fun q => q.2 h99))] at h9
            exact h9
          · have h99 : ¬ (due A p v 16) = (cG A p v) := zz_bE_f (by omega) (by omega) h99
            refine Ev.run [(.iconst 1, 1)] (pc' := 103) (L' := [some (.ref 359), some (.int (nI p)), some (.int (nI (wb A p v))), some (.int (nI v)), some (.int (nI (due A p v 16))), some (.int (nI (ms A v 16))), none]) (S' := [.int (nI 1)]) rfl (by decide +kernel) rfl ?_
            refine Ev.goto (off := 4) (tgt := 107) (by decide +kernel) (by decide) ?_
            refine Ev.run [(.istore_n 2, 1), (.iinc 3 1, 3)] (pc' := 111) (L' := [some (.ref 359), some (.int (nI p)), some (.int (nI 1)), some (.int (nI v + 1)), some (.int (nI (due A p v 16))), some (.int (nI (ms A v 16))), none]) (S' := []) rfl (by decide +kernel) rfl ?_
            rw [nI_1 v]
            refine Ev.goto (off := (-107)) (tgt := 4) (by decide +kernel) (by decide) ?_
            refine Ev.weakL (L' := [some (.ref 359), some (.int (nI p)), some (.int (nI 1)), some (.int (nI (v + 1))), none, none, none]) ⟨rfl, rfl, rfl, rfl, trivial⟩ ?_
            have h9 := ih (v + 1) (by omega) (by omega)
            rw [wb, if_pos (Or.inr ⟨h88, h99⟩)] at h9
            exact h9

set_option maxRecDepth 100000 in
set_option maxHeartbeats 4000000 in
theorem c_X7_isWrong {sc : Nat × (Nat → Int32)} {d : Nat} (I : Nat → Nat → Int32) (J : Nat → Nat → Int64) (A : zA) (hV : MV (zVm I) A) (hW : WF A) (p : Nat) (hp : p < aN A) : EvM sc (d + 1) 0 0 mX7_isWrong [.ref 359, .int (nI p)] (zz_SH, I, J) (zz_is (.int (nI (wb A p 16))) (zz_SH, I, J)) := by
  have w1 := hW.1.1
  have w2 := hW.1.2.1
  refine EvM.of (by decide) rfl (Nat.le_of_ble_eq_true rfl) ?_
  show Ev _ _ _ _ _ 0 [some (.ref 359), some (.int (nI p)), none, none, none, none, none] [] (zz_SH, I, J) _
  refine Ev.run [(.iconst 0, 1), (.istore_n 2, 1), (.iconst 0, 1), (.istore_n 3, 1)] (pc' := 4) (L' := [some (.ref 359), some (.int (nI p)), some (.int (nI 0)), some (.int (nI 0)), none, none, none]) (S' := []) rfl (by decide +kernel) rfl ?_
  exact l_X7_iw2 I J A hV hW p hp 17 0 (by omega) (by omega)

set_option maxRecDepth 100000 in
set_option maxHeartbeats 4000000 in
theorem l_X7_wrongs {sc : Nat × (Nat → Int32)} {d : Nat} (I : Nat → Nat → Int32) (J : Nat → Nat → Int64) (A : zA) (hV : MV (zVm I) A) (hW : WF A) : ∀ (μ : Nat) (p : Nat), aN A - p < μ → (p ≤ aN A) →  Ev sc (d + 2) 0 0 mX7_wrongs 4 [some (.ref 359), some (.int (nI (wrs A p))), some (.int (nI p))] [] (zz_SH, I, J) (zz_is (.int (nI (wrs A (aN A)))) (zz_SH, I, J)) := by
  intro μ
  induction μ with
  | zero => intro p hμ; exact absurd hμ (Nat.not_lt_zero _)
  | succ μ ih =>
    intro p hμ hp
    have w1 := hW.1.1
    have w2 := hW.1.2.1
    refine Ev.run [(.iload_n 2, 1), (.aload_n 0, 1), (.getfield 75, 3)] (pc' := 9) (L' := [some (.ref 359), some (.int (nI (wrs A p))), some (.int (nI p))]) (S' := [.int (I 359 2), .int (nI p)]) rfl (by decide +kernel) rfl ?_
    rw [show I 359 2 = nI (aN A) from hV.1.1]
    refine Ev.icmp_ge (off := 27) (tgt := 36) (by decide +kernel) (by decide) (fun h9 => ?_) (fun h9 => ?_)
    · have h9 : p ≥ (aN A) := zz_bG_t (by omega) (by omega) h9
      have hpN : aN A = p := by omega
      refine Ev.run [(.iload_n 1, 1)] (pc' := 37) (L' := [some (.ref 359), some (.int (nI (wrs A p))), some (.int (nI p))]) (S' := [.int (nI (wrs A p))]) rfl (by decide +kernel) rfl ?_
      exact Ev.iret rfl (by decide +kernel) (⟨by rw [hpN], rfl⟩)
    · have h9 : p < (aN A) := zz_bG_f (by omega) (by omega) h9
      refine Ev.run [(.iload_n 1, 1), (.aload_n 0, 1), (.iload_n 2, 1)] (pc' := 15) (L' := [some (.ref 359), some (.int (nI (wrs A p))), some (.int (nI p))]) (S' := [.int (nI p), .ref 359, .int (nI (wrs A p))]) rfl (by decide +kernel) rfl ?_
      refine Ev.callV0 mX7_isWrong [.int (nI p)] [.int (nI (wrs A p))] _ rfl lk_RX7_171 (by decide +kernel) (rfl) rfl rfl rfl (Nat.le_of_ble_eq_true rfl) (c_X7_isWrong I J A hV hW p (by omega)) ?_
      rintro _ _ ⟨rfl, rfl⟩
      have c1 := wb_le A p 16
      show Ev _ _ _ _ _ 18 [some (.ref 359), some (.int (nI (wrs A p))), some (.int (nI p))] [.int (nI (wb A p 16)), .int (nI (wrs A p))] (zz_SH, I, J) _
      refine Ev.if_eq (off := 9) (tgt := 27) (by decide +kernel) (by decide) (fun h18 => ?_) (fun h18 => ?_)
      · have h18 : (wb A p 16) = 0 := zz_bE_t (by omega) (by omega) h18
        refine Ev.run [(.iconst 0, 1), (.ior, 1)] (pc' := 29) (L' := [some (.ref 359), some (.int (nI (wrs A p))), some (.int (nI p))]) (S' := [.int (nI (wrs A p) ||| nI 0)]) rfl (by decide +kernel) rfl ?_
        rw [zz_or (wrs A p) 0]
        refine Ev.run [(.istore_n 1, 1), (.iinc 2 1, 3)] (pc' := 33) (L' := [some (.ref 359), some (.int (nI ((wrs A p) ||| 0))), some (.int (nI p + 1))]) (S' := []) rfl (by decide +kernel) rfl ?_
        rw [nI_1 p]
        refine Ev.goto (off := (-29)) (tgt := 4) (by decide +kernel) (by decide) ?_
        have h9 := ih (p + 1) (by omega) (by omega)
        rw [wrs, if_pos h18] at h9
        exact h9
      · have h18 : ¬ (wb A p 16) = 0 := zz_bE_f (by omega) (by omega) h18
        refine Ev.run [(.iconst 1, 1), (.iload_n 2, 1), (.ishl, 1)] (pc' := 24) (L' := [some (.ref 359), some (.int (nI (wrs A p))), some (.int (nI p))]) (S' := [.int ((nI 1) <<< (nI p &&& 31)), .int (nI (wrs A p))]) rfl (by decide +kernel) rfl ?_
        rw [zz_shl1 (k := p) (by omega)]
        refine Ev.goto (off := 4) (tgt := 28) (by decide +kernel) (by decide) ?_
        refine Ev.run [(.ior, 1)] (pc' := 29) (L' := [some (.ref 359), some (.int (nI (wrs A p))), some (.int (nI p))]) (S' := [.int (nI (wrs A p) ||| nI (2 ^ p))]) rfl (by decide +kernel) rfl ?_
        rw [zz_or (wrs A p) (2 ^ p)]
        refine Ev.run [(.istore_n 1, 1), (.iinc 2 1, 3)] (pc' := 33) (L' := [some (.ref 359), some (.int (nI ((wrs A p) ||| (2 ^ p)))), some (.int (nI p + 1))]) (S' := []) rfl (by decide +kernel) rfl ?_
        rw [nI_1 p]
        refine Ev.goto (off := (-29)) (tgt := 4) (by decide +kernel) (by decide) ?_
        have h9 := ih (p + 1) (by omega) (by omega)
        rw [wrs, if_neg h18] at h9
        exact h9

set_option maxRecDepth 100000 in
set_option maxHeartbeats 4000000 in
theorem c_X7_wrongs {sc : Nat × (Nat → Int32)} {d : Nat} (I : Nat → Nat → Int32) (J : Nat → Nat → Int64) (A : zA) (hV : MV (zVm I) A) (hW : WF A) : EvM sc (d + 2) 0 0 mX7_wrongs [.ref 359] (zz_SH, I, J) (zz_is (.int (nI (wrs A (aN A)))) (zz_SH, I, J)) := by
  have w1 := hW.1.1
  have w2 := hW.1.2.1
  refine EvM.of (by decide) rfl (Nat.le_of_ble_eq_true rfl) ?_
  show Ev _ _ _ _ _ 0 [some (.ref 359), none, none] [] (zz_SH, I, J) _
  refine Ev.run [(.iconst 0, 1), (.istore_n 1, 1), (.iconst 0, 1), (.istore_n 2, 1)] (pc' := 4) (L' := [some (.ref 359), some (.int (nI 0)), some (.int (nI 0))]) (S' := []) rfl (by decide +kernel) rfl ?_
  exact l_X7_wrongs I J A hV hW (aN A + 1) 0 (by omega) (by omega)

def zS6 (I I' : Nat → Nat → Int32) : Prop := (∀ c, c ≠ 359 → I' c = I c) ∧ ∀ j, j ≠ 22 → j ≠ 23 → I' 359 j = I 359 j
theorem zS6.rf (I : Nat → Nat → Int32) : zS6 I I := ⟨fun _ _ => rfl, fun _ _ _ => rfl⟩
theorem zS6.tr {I I' I'' : Nat → Nat → Int32} (h : zS6 I I') (h' : zS6 I' I'') : zS6 I I'' := ⟨fun c h1 => (h'.1 c h1).trans (h.1 c h1), fun j h1 h2 => (h'.2 j h1 h2).trans (h.2 j h1 h2)⟩
theorem zS6.up (I : Nat → Nat → Int32) (j : Nat) (v : Int32) (hj : j = 22 ∨ j = 23) : zS6 I (zz_up I 359 j v) := ⟨fun c h1 => zz_up_ne h1, fun i h1 h2 => by rw [zz_up_eq, zz_upn (by omega)]⟩
theorem zS6.sc {I I' : Nat → Nat → Int32} (h : zS6 I I') : zSc I I' := ⟨fun c hc => h.1 c (by omega), h.1 360 (by decide), fun c h1 h2 => h.1 c (by omega), h.1 379 (by decide), h.1 380 (by decide), h.2 0 (by decide) (by decide), h.2 2 (by decide) (by decide), h.2 8 (by decide) (by decide)⟩
theorem zS6.mv {I I' : Nat → Nat → Int32} {A : zA} (h : zS6 I I') (hV : MV (zVm I) A) : MV (zVm I') A := h.sc.mv hV

set_option maxRecDepth 100000 in
set_option maxHeartbeats 4000000 in
theorem l_X7_layGoes {sc : Nat × (Nat → Int32)} {d : Nat} (I : Nat → Nat → Int32) (J : Nat → Nat → Int64) (A : zA) (hV : MV (zVm I) A) (hW : WF A) (w v : Nat) (hw : w < 16) (hv : v < 16) : ∀ (μ : Nat) (p : Nat) (I1 : Nat → Nat → Int32), aN A - p < μ → (p ≤ aN A) → (zS6 I I1) → (I1 359 22 = nI (2 * pbo A w v p)) → (I1 359 23 = nI (pei A w v p)) →  Ev sc (d + 1) 0 0 mX7_layGoes 12 [some (.ref 359), some (.int (nI w)), some (.int (nI v)), some (.int (nI p)), none, none] [] (zz_SH, I1, J) (fun r σ => r = none ∧ ∃ I' : Nat → Nat → Int32, zS6 I I' ∧ I' 359 22 = nI (2 * pbo A w v (aN A)) ∧ I' 359 23 = nI (pei A w v (aN A)) ∧ σ = (zz_SH, I', J)) := by
  intro μ
  induction μ with
  | zero => intro p I1 hμ; exact absurd hμ (Nat.not_lt_zero _)
  | succ μ ih =>
    intro p I1 hμ hp hs hu hl
    have w1 := hW.1.1
    have w2 := hW.1.2.1
    have c8 := pbo_le A w v p
    have c9 := pei_le A w v p
    refine Ev.run [(.iload_n 3, 1), (.aload_n 0, 1), (.getfield 75, 3)] (pc' := 17) (L' := [some (.ref 359), some (.int (nI w)), some (.int (nI v)), some (.int (nI p)), none, none]) (S' := [.int (I1 359 2), .int (nI p)]) rfl (by decide +kernel) rfl ?_
    rw [show I1 359 2 = nI (aN A) from (hs.mv hV).1.1]
    refine Ev.icmp_ge (off := 71) (tgt := 88) (by decide +kernel) (by decide) (fun h17 => ?_) (fun h17 => ?_)
    · have h17 : p ≥ (aN A) := zz_bG_t (by omega) (by omega) h17
      have hpN : aN A = p := by omega
      exact Ev.vret rfl (by decide +kernel) (⟨rfl, I1, hs, by rw [hpN]; exact hu, by rw [hpN]; exact hl, rfl⟩)
    · have h17 : p < (aN A) := zz_bG_f (by omega) (by omega) h17
      refine Ev.run [(.aload_n 0, 1), (.iload_n 3, 1), (.iload_n 1, 1)] (pc' := 23) (L' := [some (.ref 359), some (.int (nI w)), some (.int (nI v)), some (.int (nI p)), none, none]) (S' := [.int (nI w), .int (nI p), .ref 359]) rfl (by decide +kernel) rfl ?_
      refine Ev.callV0 mX7_inFirst [.int (nI p), .int (nI w)] [] _ rfl lk_RX7_165 (by decide +kernel) (rfl) rfl rfl rfl (Nat.le_of_ble_eq_true rfl) (c_X7_inFirst I1 J A (hs.mv hV) hW p w (by omega) hw) ?_
      rintro _ _ ⟨rfl, rfl⟩
      have c1 := cF_le hW (show p < aN A by omega) w
      show Ev _ _ _ _ _ 26 [some (.ref 359), some (.int (nI w)), some (.int (nI v)), some (.int (nI p)), none, none] [.int (nI (cF A p w))] (zz_SH, I1, J) _
      refine Ev.if_le (off := 7) (tgt := 33) (by decide +kernel) (by decide) (fun h26 => ?_) (fun h26 => ?_)
      · have h26 : (cF A p w) ≤ 0 := zz_bG'_t (by omega) (by omega) h26
        refine Ev.run [(.iconst 0, 1), (.istore 4, 2), (.aload_n 0, 1), (.iload_n 3, 1), (.iload_n 2, 1)] (pc' := 39) (L' := [some (.ref 359), some (.int (nI w)), some (.int (nI v)), some (.int (nI p)), some (.int (nI 0)), none]) (S' := [.int (nI v), .int (nI p), .ref 359]) rfl (by decide +kernel) rfl ?_
        refine Ev.callV0 mX7_inSecond [.int (nI p), .int (nI v)] [] _ rfl lk_RX7_168 (by decide +kernel) (rfl) rfl rfl rfl (Nat.le_of_ble_eq_true rfl) (c_X7_inSecond I1 J A (hs.mv hV) hW p v (by omega) hv) ?_
        rintro _ _ ⟨rfl, rfl⟩
        have c2 := cG_le hW (show p < aN A by omega) v
        show Ev _ _ _ _ _ 42 [some (.ref 359), some (.int (nI w)), some (.int (nI v)), some (.int (nI p)), some (.int (nI 0)), none] [.int (nI (cG A p v))] (zz_SH, I1, J) _
        refine Ev.if_le (off := 7) (tgt := 49) (by decide +kernel) (by decide) (fun h42 => ?_) (fun h42 => ?_)
        · have h42 : (cG A p v) ≤ 0 := zz_bG'_t (by omega) (by omega) h42
          refine Ev.run [(.iconst 0, 1), (.istore 5, 2), (.aload_n 0, 1), (.dup, 1), (.getfield 174, 3)] (pc' := 57) (L' := [some (.ref 359), some (.int (nI w)), some (.int (nI v)), some (.int (nI p)), some (.int (nI 0)), some (.int (nI 0))]) (S' := [.int (I1 359 22), .ref 359]) rfl (by decide +kernel) rfl ?_
          rw [hu]
          refine Ev.run [(.iconst 2, 1), (.iload 4, 2), (.imul, 1)] (pc' := 61) (L' := [some (.ref 359), some (.int (nI w)), some (.int (nI v)), some (.int (nI p)), some (.int (nI 0)), some (.int (nI 0))]) (S' := [.int (nI 2 * nI 0), .int (nI (2 * pbo A w v p)), .ref 359]) rfl (by decide +kernel) rfl ?_
          rw [pk_mul 2 0]
          refine Ev.run [(.iload 5, 2), (.imul, 1)] (pc' := 64) (L' := [some (.ref 359), some (.int (nI w)), some (.int (nI v)), some (.int (nI p)), some (.int (nI 0)), some (.int (nI 0))]) (S' := [.int (nI (2 * 0) * nI 0), .int (nI (2 * pbo A w v p)), .ref 359]) rfl (by decide +kernel) rfl ?_
          rw [pk_mul (2 * 0) 0]
          refine Ev.run [(.iadd, 1)] (pc' := 65) (L' := [some (.ref 359), some (.int (nI w)), some (.int (nI v)), some (.int (nI p)), some (.int (nI 0)), some (.int (nI 0))]) (S' := [.int (nI (2 * pbo A w v p) + nI ((2 * 0) * 0)), .ref 359]) rfl (by decide +kernel) rfl ?_
          rw [nI_add (2 * pbo A w v p) ((2 * 0) * 0)]
          refine Ev.putf (idx := 174) rfl rfl rfl (by decide +kernel) (rfl) rfl ?_
          dsimp only
          refine Ev.run [(.aload_n 0, 1), (.dup, 1), (.getfield 177, 3)] (pc' := 73) (L' := [some (.ref 359), some (.int (nI w)), some (.int (nI v)), some (.int (nI p)), some (.int (nI 0)), some (.int (nI 0))]) (S' := [.int ((zz_up I1 359 22 (nI ((2 * pbo A w v p) + ((2 * 0) * 0)))) 359 23), .ref 359]) rfl (by decide +kernel) rfl ?_
          rw [show (zz_up I1 359 22 (nI ((2 * pbo A w v p) + ((2 * 0) * 0)))) 359 23 = nI (pei A w v p) from by rw [zz_up_eq, zz_upn (by decide)]; exact hl]
          refine Ev.run [(.iload 4, 2), (.iload 5, 2), (.iadd, 1)] (pc' := 78) (L' := [some (.ref 359), some (.int (nI w)), some (.int (nI v)), some (.int (nI p)), some (.int (nI 0)), some (.int (nI 0))]) (S' := [.int (nI 0 + nI 0), .int (nI (pei A w v p)), .ref 359]) rfl (by decide +kernel) rfl ?_
          rw [nI_add 0 0]
          refine Ev.run [(.iadd, 1)] (pc' := 79) (L' := [some (.ref 359), some (.int (nI w)), some (.int (nI v)), some (.int (nI p)), some (.int (nI 0)), some (.int (nI 0))]) (S' := [.int (nI (pei A w v p) + nI (0 + 0)), .ref 359]) rfl (by decide +kernel) rfl ?_
          rw [nI_add (pei A w v p) (0 + 0)]
          refine Ev.putf (idx := 177) rfl rfl rfl (by decide +kernel) (rfl) rfl ?_
          dsimp only
          refine Ev.run [(.iinc 3 1, 3)] (pc' := 85) (L' := [some (.ref 359), some (.int (nI w)), some (.int (nI v)), some (.int (nI p + 1)), some (.int (nI 0)), some (.int (nI 0))]) (S' := []) rfl (by decide +kernel) rfl ?_
          rw [nI_1 p]
          refine Ev.goto (off := (-73)) (tgt := 12) (by decide +kernel) (by decide) ?_
          refine Ev.weakL (L' := [some (.ref 359), some (.int (nI w)), some (.int (nI v)), some (.int (nI (p + 1))), none, none]) ⟨rfl, rfl, rfl, rfl, trivial⟩ ?_
          have e1 : (if 0 < cF A p w then 1 else 0) = 0 := if_neg (by omega)
          have e2 : (if 0 < cG A p v then 1 else 0) = 0 := if_neg (by omega)
          have e3 : (if 0 < cF A p w ∧ 0 < cG A p v then 1 else 0) = 0 := if_neg (by omega)
          refine ih (p + 1) _ (by omega) (by omega) ((hs.tr (zS6.up I1 22 _ (by decide))).tr (zS6.up _ 23 _ (by decide))) ?_ ?_
          · rw [zz_up_eq, zz_upn (by decide), zz_up_eq, zz_ups, pbo, e3]; congr 1
          · rw [zz_up_eq, zz_ups, pei, e1, e2]
        · have h42 : (cG A p v) > 0 := zz_bG'_f (by omega) (by omega) h42
          refine Ev.run [(.iconst 1, 1)] (pc' := 46) (L' := [some (.ref 359), some (.int (nI w)), some (.int (nI v)), some (.int (nI p)), some (.int (nI 0)), none]) (S' := [.int (nI 1)]) rfl (by decide +kernel) rfl ?_
          refine Ev.goto (off := 4) (tgt := 50) (by decide +kernel) (by decide) ?_
          refine Ev.run [(.istore 5, 2), (.aload_n 0, 1), (.dup, 1), (.getfield 174, 3)] (pc' := 57) (L' := [some (.ref 359), some (.int (nI w)), some (.int (nI v)), some (.int (nI p)), some (.int (nI 0)), some (.int (nI 1))]) (S' := [.int (I1 359 22), .ref 359]) rfl (by decide +kernel) rfl ?_
          rw [hu]
          refine Ev.run [(.iconst 2, 1), (.iload 4, 2), (.imul, 1)] (pc' := 61) (L' := [some (.ref 359), some (.int (nI w)), some (.int (nI v)), some (.int (nI p)), some (.int (nI 0)), some (.int (nI 1))]) (S' := [.int (nI 2 * nI 0), .int (nI (2 * pbo A w v p)), .ref 359]) rfl (by decide +kernel) rfl ?_
          rw [pk_mul 2 0]
          refine Ev.run [(.iload 5, 2), (.imul, 1)] (pc' := 64) (L' := [some (.ref 359), some (.int (nI w)), some (.int (nI v)), some (.int (nI p)), some (.int (nI 0)), some (.int (nI 1))]) (S' := [.int (nI (2 * 0) * nI 1), .int (nI (2 * pbo A w v p)), .ref 359]) rfl (by decide +kernel) rfl ?_
          rw [pk_mul (2 * 0) 1]
          refine Ev.run [(.iadd, 1)] (pc' := 65) (L' := [some (.ref 359), some (.int (nI w)), some (.int (nI v)), some (.int (nI p)), some (.int (nI 0)), some (.int (nI 1))]) (S' := [.int (nI (2 * pbo A w v p) + nI ((2 * 0) * 1)), .ref 359]) rfl (by decide +kernel) rfl ?_
          rw [nI_add (2 * pbo A w v p) ((2 * 0) * 1)]
          refine Ev.putf (idx := 174) rfl rfl rfl (by decide +kernel) (rfl) rfl ?_
          dsimp only
          refine Ev.run [(.aload_n 0, 1), (.dup, 1), (.getfield 177, 3)] (pc' := 73) (L' := [some (.ref 359), some (.int (nI w)), some (.int (nI v)), some (.int (nI p)), some (.int (nI 0)), some (.int (nI 1))]) (S' := [.int ((zz_up I1 359 22 (nI ((2 * pbo A w v p) + ((2 * 0) * 1)))) 359 23), .ref 359]) rfl (by decide +kernel) rfl ?_
          rw [show (zz_up I1 359 22 (nI ((2 * pbo A w v p) + ((2 * 0) * 1)))) 359 23 = nI (pei A w v p) from by rw [zz_up_eq, zz_upn (by decide)]; exact hl]
          refine Ev.run [(.iload 4, 2), (.iload 5, 2), (.iadd, 1)] (pc' := 78) (L' := [some (.ref 359), some (.int (nI w)), some (.int (nI v)), some (.int (nI p)), some (.int (nI 0)), some (.int (nI 1))]) (S' := [.int (nI 0 + nI 1), .int (nI (pei A w v p)), .ref 359]) rfl (by decide +kernel) rfl ?_
          rw [nI_add 0 1]
          refine Ev.run [(.iadd, 1)] (pc' := 79) (L' := [some (.ref 359), some (.int (nI w)), some (.int (nI v)), some (.int (nI p)), some (.int (nI 0)), some (.int (nI 1))]) (S' := [.int (nI (pei A w v p) + nI (0 + 1)), .ref 359]) rfl (by decide +kernel) rfl ?_
          rw [nI_add (pei A w v p) (0 + 1)]
          refine Ev.putf (idx := 177) rfl rfl rfl (by decide +kernel) (rfl) rfl ?_
          dsimp only
          refine Ev.run [(.iinc 3 1, 3)] (pc' := 85) (L' := [some (.ref 359), some (.int (nI w)), some (.int (nI v)), some (.int (nI p + 1)), some (.int (nI 0)), some (.int (nI 1))]) (S' := []) rfl (by decide +kernel) rfl ?_
          rw [nI_1 p]
          refine Ev.goto (off := (-73)) (tgt := 12) (by decide +kernel) (by decide) ?_
          refine Ev.weakL (L' := [some (.ref 359), some (.int (nI w)), some (.int (nI v)), some (.int (nI (p + 1))), none, none]) ⟨rfl, rfl, rfl, rfl, trivial⟩ ?_
          have e1 : (if 0 < cF A p w then 1 else 0) = 0 := if_neg (by omega)
          have e2 : (if 0 < cG A p v then 1 else 0) = 1 := if_pos (by omega)
          have e3 : (if 0 < cF A p w ∧ 0 < cG A p v then 1 else 0) = 0 := if_neg (by omega)
          refine ih (p + 1) _ (by omega) (by omega) ((hs.tr (zS6.up I1 22 _ (by decide))).tr (zS6.up _ 23 _ (by decide))) ?_ ?_
          · rw [zz_up_eq, zz_upn (by decide), zz_up_eq, zz_ups, pbo, e3]; congr 1
          · rw [zz_up_eq, zz_ups, pei, e1, e2]
      · have h26 : (cF A p w) > 0 := zz_bG'_f (by omega) (by omega) h26
        refine Ev.run [(.iconst 1, 1)] (pc' := 30) (L' := [some (.ref 359), some (.int (nI w)), some (.int (nI v)), some (.int (nI p)), none, none]) (S' := [.int (nI 1)]) rfl (by decide +kernel) rfl ?_
        refine Ev.goto (off := 4) (tgt := 34) (by decide +kernel) (by decide) ?_
        refine Ev.run [(.istore 4, 2), (.aload_n 0, 1), (.iload_n 3, 1), (.iload_n 2, 1)] (pc' := 39) (L' := [some (.ref 359), some (.int (nI w)), some (.int (nI v)), some (.int (nI p)), some (.int (nI 1)), none]) (S' := [.int (nI v), .int (nI p), .ref 359]) rfl (by decide +kernel) rfl ?_
        refine Ev.callV0 mX7_inSecond [.int (nI p), .int (nI v)] [] _ rfl lk_RX7_168 (by decide +kernel) (rfl) rfl rfl rfl (Nat.le_of_ble_eq_true rfl) (c_X7_inSecond I1 J A (hs.mv hV) hW p v (by omega) hv) ?_
        rintro _ _ ⟨rfl, rfl⟩
        have c2 := cG_le hW (show p < aN A by omega) v
        show Ev _ _ _ _ _ 42 [some (.ref 359), some (.int (nI w)), some (.int (nI v)), some (.int (nI p)), some (.int (nI 1)), none] [.int (nI (cG A p v))] (zz_SH, I1, J) _
        refine Ev.if_le (off := 7) (tgt := 49) (by decide +kernel) (by decide) (fun h42 => ?_) (fun h42 => ?_)
        · have h42 : (cG A p v) ≤ 0 := zz_bG'_t (by omega) (by omega) h42
          refine Ev.run [(.iconst 0, 1), (.istore 5, 2), (.aload_n 0, 1), (.dup, 1), (.getfield 174, 3)] (pc' := 57) (L' := [some (.ref 359), some (.int (nI w)), some (.int (nI v)), some (.int (nI p)), some (.int (nI 1)), some (.int (nI 0))]) (S' := [.int (I1 359 22), .ref 359]) rfl (by decide +kernel) rfl ?_
          rw [hu]
          refine Ev.run [(.iconst 2, 1), (.iload 4, 2), (.imul, 1)] (pc' := 61) (L' := [some (.ref 359), some (.int (nI w)), some (.int (nI v)), some (.int (nI p)), some (.int (nI 1)), some (.int (nI 0))]) (S' := [.int (nI 2 * nI 1), .int (nI (2 * pbo A w v p)), .ref 359]) rfl (by decide +kernel) rfl ?_
          rw [pk_mul 2 1]
          refine Ev.run [(.iload 5, 2), (.imul, 1)] (pc' := 64) (L' := [some (.ref 359), some (.int (nI w)), some (.int (nI v)), some (.int (nI p)), some (.int (nI 1)), some (.int (nI 0))]) (S' := [.int (nI (2 * 1) * nI 0), .int (nI (2 * pbo A w v p)), .ref 359]) rfl (by decide +kernel) rfl ?_
          rw [pk_mul (2 * 1) 0]
          refine Ev.run [(.iadd, 1)] (pc' := 65) (L' := [some (.ref 359), some (.int (nI w)), some (.int (nI v)), some (.int (nI p)), some (.int (nI 1)), some (.int (nI 0))]) (S' := [.int (nI (2 * pbo A w v p) + nI ((2 * 1) * 0)), .ref 359]) rfl (by decide +kernel) rfl ?_
          rw [nI_add (2 * pbo A w v p) ((2 * 1) * 0)]
          refine Ev.putf (idx := 174) rfl rfl rfl (by decide +kernel) (rfl) rfl ?_
          dsimp only
          refine Ev.run [(.aload_n 0, 1), (.dup, 1), (.getfield 177, 3)] (pc' := 73) (L' := [some (.ref 359), some (.int (nI w)), some (.int (nI v)), some (.int (nI p)), some (.int (nI 1)), some (.int (nI 0))]) (S' := [.int ((zz_up I1 359 22 (nI ((2 * pbo A w v p) + ((2 * 1) * 0)))) 359 23), .ref 359]) rfl (by decide +kernel) rfl ?_
          rw [show (zz_up I1 359 22 (nI ((2 * pbo A w v p) + ((2 * 1) * 0)))) 359 23 = nI (pei A w v p) from by rw [zz_up_eq, zz_upn (by decide)]; exact hl]
          refine Ev.run [(.iload 4, 2), (.iload 5, 2), (.iadd, 1)] (pc' := 78) (L' := [some (.ref 359), some (.int (nI w)), some (.int (nI v)), some (.int (nI p)), some (.int (nI 1)), some (.int (nI 0))]) (S' := [.int (nI 1 + nI 0), .int (nI (pei A w v p)), .ref 359]) rfl (by decide +kernel) rfl ?_
          rw [nI_add 1 0]
          refine Ev.run [(.iadd, 1)] (pc' := 79) (L' := [some (.ref 359), some (.int (nI w)), some (.int (nI v)), some (.int (nI p)), some (.int (nI 1)), some (.int (nI 0))]) (S' := [.int (nI (pei A w v p) + nI (1 + 0)), .ref 359]) rfl (by decide +kernel) rfl ?_
          rw [nI_add (pei A w v p) (1 + 0)]
          refine Ev.putf (idx := 177) rfl rfl rfl (by decide +kernel) (rfl) rfl ?_
          dsimp only
          refine Ev.run [(.iinc 3 1, 3)] (pc' := 85) (L' := [some (.ref 359), some (.int (nI w)), some (.int (nI v)), some (.int (nI p + 1)), some (.int (nI 1)), some (.int (nI 0))]) (S' := []) rfl (by decide +kernel) rfl ?_
          rw [nI_1 p]
          refine Ev.goto (off := (-73)) (tgt := 12) (by decide +kernel) (by decide) ?_
          refine Ev.weakL (L' := [some (.ref 359), some (.int (nI w)), some (.int (nI v)), some (.int (nI (p + 1))), none, none]) ⟨rfl, rfl, rfl, rfl, trivial⟩ ?_
          have e1 : (if 0 < cF A p w then 1 else 0) = 1 := if_pos (by omega)
          have e2 : (if 0 < cG A p v then 1 else 0) = 0 := if_neg (by omega)
          have e3 : (if 0 < cF A p w ∧ 0 < cG A p v then 1 else 0) = 0 := if_neg (by omega)
          refine ih (p + 1) _ (by omega) (by omega) ((hs.tr (zS6.up I1 22 _ (by decide))).tr (zS6.up _ 23 _ (by decide))) ?_ ?_
          · rw [zz_up_eq, zz_upn (by decide), zz_up_eq, zz_ups, pbo, e3]; congr 1
          · rw [zz_up_eq, zz_ups, pei, e1, e2]
        · have h42 : (cG A p v) > 0 := zz_bG'_f (by omega) (by omega) h42
          refine Ev.run [(.iconst 1, 1)] (pc' := 46) (L' := [some (.ref 359), some (.int (nI w)), some (.int (nI v)), some (.int (nI p)), some (.int (nI 1)), none]) (S' := [.int (nI 1)]) rfl (by decide +kernel) rfl ?_
          refine Ev.goto (off := 4) (tgt := 50) (by decide +kernel) (by decide) ?_
          refine Ev.run [(.istore 5, 2), (.aload_n 0, 1), (.dup, 1), (.getfield 174, 3)] (pc' := 57) (L' := [some (.ref 359), some (.int (nI w)), some (.int (nI v)), some (.int (nI p)), some (.int (nI 1)), some (.int (nI 1))]) (S' := [.int (I1 359 22), .ref 359]) rfl (by decide +kernel) rfl ?_
          rw [hu]
          refine Ev.run [(.iconst 2, 1), (.iload 4, 2), (.imul, 1)] (pc' := 61) (L' := [some (.ref 359), some (.int (nI w)), some (.int (nI v)), some (.int (nI p)), some (.int (nI 1)), some (.int (nI 1))]) (S' := [.int (nI 2 * nI 1), .int (nI (2 * pbo A w v p)), .ref 359]) rfl (by decide +kernel) rfl ?_
          rw [pk_mul 2 1]
          refine Ev.run [(.iload 5, 2), (.imul, 1)] (pc' := 64) (L' := [some (.ref 359), some (.int (nI w)), some (.int (nI v)), some (.int (nI p)), some (.int (nI 1)), some (.int (nI 1))]) (S' := [.int (nI (2 * 1) * nI 1), .int (nI (2 * pbo A w v p)), .ref 359]) rfl (by decide +kernel) rfl ?_
          rw [pk_mul (2 * 1) 1]
          refine Ev.run [(.iadd, 1)] (pc' := 65) (L' := [some (.ref 359), some (.int (nI w)), some (.int (nI v)), some (.int (nI p)), some (.int (nI 1)), some (.int (nI 1))]) (S' := [.int (nI (2 * pbo A w v p) + nI ((2 * 1) * 1)), .ref 359]) rfl (by decide +kernel) rfl ?_
          rw [nI_add (2 * pbo A w v p) ((2 * 1) * 1)]
          refine Ev.putf (idx := 174) rfl rfl rfl (by decide +kernel) (rfl) rfl ?_
          dsimp only
          refine Ev.run [(.aload_n 0, 1), (.dup, 1), (.getfield 177, 3)] (pc' := 73) (L' := [some (.ref 359), some (.int (nI w)), some (.int (nI v)), some (.int (nI p)), some (.int (nI 1)), some (.int (nI 1))]) (S' := [.int ((zz_up I1 359 22 (nI ((2 * pbo A w v p) + ((2 * 1) * 1)))) 359 23), .ref 359]) rfl (by decide +kernel) rfl ?_
          rw [show (zz_up I1 359 22 (nI ((2 * pbo A w v p) + ((2 * 1) * 1)))) 359 23 = nI (pei A w v p) from by rw [zz_up_eq, zz_upn (by decide)]; exact hl]
          refine Ev.run [(.iload 4, 2), (.iload 5, 2), (.iadd, 1)] (pc' := 78) (L' := [some (.ref 359), some (.int (nI w)), some (.int (nI v)), some (.int (nI p)), some (.int (nI 1)), some (.int (nI 1))]) (S' := [.int (nI 1 + nI 1), .int (nI (pei A w v p)), .ref 359]) rfl (by decide +kernel) rfl ?_
          rw [nI_add 1 1]
          refine Ev.run [(.iadd, 1)] (pc' := 79) (L' := [some (.ref 359), some (.int (nI w)), some (.int (nI v)), some (.int (nI p)), some (.int (nI 1)), some (.int (nI 1))]) (S' := [.int (nI (pei A w v p) + nI (1 + 1)), .ref 359]) rfl (by decide +kernel) rfl ?_
          rw [nI_add (pei A w v p) (1 + 1)]
          refine Ev.putf (idx := 177) rfl rfl rfl (by decide +kernel) (rfl) rfl ?_
          dsimp only
          refine Ev.run [(.iinc 3 1, 3)] (pc' := 85) (L' := [some (.ref 359), some (.int (nI w)), some (.int (nI v)), some (.int (nI p + 1)), some (.int (nI 1)), some (.int (nI 1))]) (S' := []) rfl (by decide +kernel) rfl ?_
          rw [nI_1 p]
          refine Ev.goto (off := (-73)) (tgt := 12) (by decide +kernel) (by decide) ?_
          refine Ev.weakL (L' := [some (.ref 359), some (.int (nI w)), some (.int (nI v)), some (.int (nI (p + 1))), none, none]) ⟨rfl, rfl, rfl, rfl, trivial⟩ ?_
          have e1 : (if 0 < cF A p w then 1 else 0) = 1 := if_pos (by omega)
          have e2 : (if 0 < cG A p v then 1 else 0) = 1 := if_pos (by omega)
          have e3 : (if 0 < cF A p w ∧ 0 < cG A p v then 1 else 0) = 1 := if_pos (by omega)
          refine ih (p + 1) _ (by omega) (by omega) ((hs.tr (zS6.up I1 22 _ (by decide))).tr (zS6.up _ 23 _ (by decide))) ?_ ?_
          · rw [zz_up_eq, zz_upn (by decide), zz_up_eq, zz_ups, pbo, e3]; congr 1
          · rw [zz_up_eq, zz_ups, pei, e1, e2]

set_option maxRecDepth 100000 in
set_option maxHeartbeats 4000000 in
theorem c_X7_layGoes {sc : Nat × (Nat → Int32)} {d : Nat} (I : Nat → Nat → Int32) (J : Nat → Nat → Int64) (A : zA) (hV : MV (zVm I) A) (hW : WF A) (w v : Nat) (hw : w < 16) (hv : v < 16) : EvM sc (d + 1) 0 0 mX7_layGoes [.ref 359, .int (nI w), .int (nI v)] (zz_SH, I, J) (fun r σ => r = none ∧ ∃ I' : Nat → Nat → Int32, zS6 I I' ∧ I' 359 22 = nI (2 * pbo A w v (aN A)) ∧ I' 359 23 = nI (pei A w v (aN A)) ∧ σ = (zz_SH, I', J)) := by
  have w1 := hW.1.1
  have w2 := hW.1.2.1
  refine EvM.of (by decide) rfl (Nat.le_of_ble_eq_true rfl) ?_
  show Ev _ _ _ _ _ 0 [some (.ref 359), some (.int (nI w)), some (.int (nI v)), none, none, none] [] (zz_SH, I, J) _
  refine Ev.run [(.aload_n 0, 1), (.iconst 0, 1)] (pc' := 2) (L' := [some (.ref 359), some (.int (nI w)), some (.int (nI v)), none, none, none]) (S' := [.int (nI 0), .ref 359]) rfl (by decide +kernel) rfl ?_
  refine Ev.putf (idx := 174) rfl rfl rfl (by decide +kernel) (rfl) rfl ?_
  dsimp only
  refine Ev.run [(.aload_n 0, 1), (.iconst 0, 1)] (pc' := 7) (L' := [some (.ref 359), some (.int (nI w)), some (.int (nI v)), none, none, none]) (S' := [.int (nI 0), .ref 359]) rfl (by decide +kernel) rfl ?_
  refine Ev.putf (idx := 177) rfl rfl rfl (by decide +kernel) (rfl) rfl ?_
  dsimp only
  refine Ev.run [(.iconst 0, 1), (.istore_n 3, 1)] (pc' := 12) (L' := [some (.ref 359), some (.int (nI w)), some (.int (nI v)), some (.int (nI 0)), none, none]) (S' := []) rfl (by decide +kernel) rfl ?_
  refine l_X7_layGoes I J A hV hW w v hw hv (aN A + 1) 0 _ (by omega) (by omega) ((zS6.up I 22 _ (by decide)).tr (zS6.up _ 23 _ (by decide))) ?_ ?_
  · rw [zz_up_eq, zz_upn (by decide), zz_up_eq, zz_ups]; rfl
  · rw [zz_up_eq, zz_ups]; rfl
