/-! ===== numbers and branches ===== -/
theorem zz_bE_t {a b : Nat} (ha : a < 2 ^ 31) (hb : b < 2 ^ 31) (h : nI a = nI b) : a = b := (nI_eq ha hb).mp h
theorem zz_bE_f {a b : Nat} (_ : a < 2 ^ 31) (_ : b < 2 ^ 31) (h : ¬ nI a = nI b) : ¬ a = b := fun e => h (by rw [e])
theorem zz_bL_t {a b : Nat} (ha : a < 2 ^ 31) (hb : b < 2 ^ 31) (h : nI a < nI b) : a < b := (nI_ltI ha hb).mp h
theorem zz_bL_f {a b : Nat} (ha : a < 2 ^ 31) (hb : b < 2 ^ 31) (h : ¬ nI a < nI b) : a ≥ b := Nat.not_lt.mp (fun q => h ((nI_ltI ha hb).mpr q))
theorem zz_bG_t {a b : Nat} (ha : a < 2 ^ 31) (hb : b < 2 ^ 31) (h : nI b ≤ nI a) : a ≥ b := (nI_leI hb ha).mp h
theorem zz_bG_f {a b : Nat} (ha : a < 2 ^ 31) (hb : b < 2 ^ 31) (h : ¬ nI b ≤ nI a) : a < b := Nat.not_le.mp (fun q => h ((nI_leI hb ha).mpr q))
theorem zz_bL'_t {a b : Nat} (ha : a < 2 ^ 31) (hb : b < 2 ^ 31) (h : nI b < nI a) : a > b := (nI_ltI hb ha).mp h
theorem zz_bL'_f {a b : Nat} (ha : a < 2 ^ 31) (hb : b < 2 ^ 31) (h : ¬ nI b < nI a) : a ≤ b := Nat.not_lt.mp (fun q => h ((nI_ltI hb ha).mpr q))
theorem zz_bG'_t {a b : Nat} (ha : a < 2 ^ 31) (hb : b < 2 ^ 31) (h : nI a ≤ nI b) : a ≤ b := (nI_leI ha hb).mp h
theorem zz_bG'_f {a b : Nat} (ha : a < 2 ^ 31) (hb : b < 2 ^ 31) (h : ¬ nI a ≤ nI b) : a > b := Nat.not_le.mp (fun q => h ((nI_leI ha hb).mpr q))
theorem zz_ni {x : Int32} (h : ¬ x < 0) : x = nI x.toNatClampNeg := by
  obtain ⟨j, hj, rfl⟩ := nI_of h
  rw [nI_clamp hj]
theorem zz_ni_lt {x : Int32} {n : Nat} (h : ¬ x < 0) (hn : n < 2 ^ 31) (h2 : ¬ nI n ≤ x) : x.toNatClampNeg < n := by
  obtain ⟨j, hj, rfl⟩ := nI_of h
  rw [nI_clamp hj]
  exact Nat.not_le.mp (fun q => h2 ((nI_leI hn hj).mpr q))
/-- an answer, and the store as it is then -/
def zz_is (v : Value) (σ : zz_St) : Option Value → zz_St → Prop := fun r s => r = some v ∧ s = σ
def zz_iv (σ : zz_St) : Option Value → zz_St → Prop := fun r s => r = none ∧ s = σ
section ZZ0
variable {sc : Nat × (Nat → Int32)} {d : Nat} {M : zz_MD} {pc : Nat} {L : List (Option Value)} {S : List Value} {σ : zz_St} {Q : Option Value → zz_St → Prop}
theorem Ev.callV0 (M' : zz_MD) {idx n k ci : Nat} (as rest : List Value) {fs : List (Option (Option Nat))} {q : vw_C} (Q1 : Option Value → zz_St → Prop) (hS : S = as.reverse ++ .ref k :: rest)
    (hcv : zz_cV M M' idx n) (hd : decode M.2.1 pc = .ok (.invokevirtual idx, 3)) (hk : σ.1[k]? = some (.inl (ci, fs))) (hci : zz_cl[ci]? = some q) (hq : q.1 = M'.1.cls) (hn : as.length = n) (hst : (rest.map fun v => v.category).sum ≤ 8)
    (hM : EvM sc d 0 0 M' (.ref k :: as) σ Q1) (kk : ∀ (r : Option Value) (σ' : zz_St), Q1 r σ' → Ev sc (d + 1) 0 0 M (pc + 3) L (r.toList ++ rest) σ' Q) : Ev sc (d + 1) 0 0 M pc L S σ Q := by
  subst hS
  exact Ev.callV (mc1 := 0) (ms1 := 0) (mc2 := 0) (ms2 := 0) M' as rest Q1 hcv hd hk hci hq hn hst hM kk
theorem Ev.callS0 (M' : zz_MD) {idx n : Nat} (as rest : List Value) (Q1 : Option Value → zz_St → Prop) (hS : S = as.reverse ++ rest)
    (hcv : zz_cS M M' idx n) (hd : decode M.2.1 pc = .ok (.invokestatic idx, 3)) (hn : as.length = n) (hst : (rest.map fun v => v.category).sum ≤ 8)
    (hM : EvM sc d 0 0 M' as σ Q1) (kk : ∀ (r : Option Value) (σ' : zz_St), Q1 r σ' → Ev sc (d + 1) 0 0 M (pc + 3) L (r.toList ++ rest) σ' Q) : Ev sc (d + 1) 0 0 M pc L S σ Q := by
  subst hS
  exact Ev.callS (mc1 := 0) (ms1 := 0) (mc2 := 0) (ms2 := 0) M' as rest Q1 hcv hd hn hst hM kk
theorem Ev.callSN0 (M' : zz_MD) {idx n : Nat} {host : String} (as rest : List Value) (Q1 : Option Value → zz_St → Prop) (hS : S = as.reverse ++ rest)
    (hw : Cond.methodLinkNest M.1.cls idx M'.1 host ∈ zz_nest) (w1 : Cond.code M'.1 M'.2.1 M'.2.2.1 M'.2.2.2.1 ∈ zz_WG) (w2 : Cond.initialized M'.1.cls ∈ zz_WG) (w4 : M'.1.cls ≠ "java/lang/invoke/MethodHandle" ∧ M'.1.cls ≠ "java/lang/invoke/VarHandle" ∧ (parseMethodDescriptor M'.1.desc).map (fun d => d.parameters.length) = some n) (w5 : M'.2.2.1 ≤ 17) (w6 : Cond.static M'.1 ∈ zz_WG)
    (hd : decode M.2.1 pc = .ok (.invokestatic idx, 3)) (hn : as.length = n) (hst : (rest.map fun v => v.category).sum ≤ 8)
    (hM : EvM sc d 0 0 M' as σ Q1) (kk : ∀ (r : Option Value) (σ' : zz_St), Q1 r σ' → Ev sc (d + 1) 0 0 M (pc + 3) L (r.toList ++ rest) σ' Q) : Ev sc (d + 1) 0 0 M pc L S σ Q := by
  subst hS
  exact Ev.callSN (mc1 := 0) (ms1 := 0) (mc2 := 0) (ms2 := 0) M' as rest Q1 hw w1 w2 w4 w5 w6 hd hn hst hM kk
end ZZ0
/-! ===== Row ===== -/
def zz_row (k n : Nat) : Prop := zz_SH[k]? = some (.inl (4, [some (some (k + 1)), none])) ∧ zz_SH[k + 1]? = some (.inr (0, n, [])) ∧ n < 100
def zz_rat (I : Nat → Nat → Int32) (k n : Nat) (p : Int32) : Int32 := if ¬ p < 0 ∧ ¬ I k 1 ≤ p ∧ ¬ nI n ≤ p then I (k + 1) p.toNatClampNeg else -6
theorem zz_rat_in {I : Nat → Nat → Int32} {k n j s : Nat} (hs : I k 1 = nI s) (hsn : s ≤ n) (hn : n < 100) (hj : j < s) : zz_rat I k n (nI j) = I (k + 1) j := by
  unfold zz_rat
  rw [if_pos, nI_clamp (by omega)]
  refine ⟨nI_pos (by omega), ?_, nI_ge (by omega) (by omega)⟩
  rw [hs]
  exact nI_ge (by omega) (by omega)
theorem zz_rat_out {I : Nat → Nat → Int32} {k n : Nat} {p : Int32} (h : p < 0 ∨ I k 1 ≤ p) : zz_rat I k n p = -6 := by
  unfold zz_rat
  rw [if_neg]
  rintro ⟨h1, h2, -⟩
  rcases h with h | h
  · exact h1 h
  · exact h2 h
theorem zz_rat_outN {I : Nat → Nat → Int32} {k n j s : Nat} (hs : I k 1 = nI s) (hsn : s < 2 ^ 31) (hj : s ≤ j) (hj2 : j < 2 ^ 31) : zz_rat I k n (nI j) = -6 := zz_rat_out (Or.inr (by rw [hs]; exact nI_le hj hj2))

set_option maxRecDepth 100000 in
set_option maxHeartbeats 4000000 in
theorem c_X4_at {sc : Nat × (Nat → Int32)} {d : Nat} (I : Nat → Nat → Int32) (J : Nat → Nat → Int64) (k n : Nat) (p : Int32) (hk : zz_row k n) : EvM sc (d) 0 0 mX4_at [.ref k, .int p] (zz_SH, I, J) (zz_is (.int (zz_rat I k n p)) (zz_SH, I, J)) := by
  have h99 := hk.2.2
  refine EvM.of (by decide) rfl (Nat.le_of_ble_eq_true rfl) ?_
  show Ev _ _ _ _ _ 0 [some (.ref k), some (.int p)] [] (zz_SH, I, J) _
  refine Ev.run [(.iload_n 1, 1)] (pc' := 1) (L' := [some (.ref k), some (.int p)]) (S' := [.int p]) rfl (by decide +kernel) rfl ?_
  refine Ev.if_lt (off := 29) (tgt := 30) (by decide +kernel) (by decide) (fun h1 => ?_) (fun h1 => ?_)
  · refine Ev.run [(.bipush (-6), 2)] (pc' := 32) (L' := [some (.ref k), some (.int p)]) (S' := [.int ((-6))]) rfl (by decide +kernel) rfl ?_
    exact Ev.iret rfl (by decide +kernel) (⟨by rw [zz_rat, if_neg (fun q => q.1 h1)], rfl⟩)
  · refine Ev.run [(.iload_n 1, 1), (.aload_n 0, 1)] (pc' := 6) (L' := [some (.ref k), some (.int p)]) (S' := [.ref k, .int p]) rfl (by decide +kernel) rfl ?_
    refine Ev.getf (idx := 15) (x := none) (v := .int (I k 1)) rfl rfl (by decide +kernel) (hk.1) rfl rfl ?_
    refine Ev.icmp_ge (off := 21) (tgt := 30) (by decide +kernel) (by decide) (fun h9 => ?_) (fun h9 => ?_)
    · refine Ev.run [(.bipush (-6), 2)] (pc' := 32) (L' := [some (.ref k), some (.int p)]) (S' := [.int ((-6))]) rfl (by decide +kernel) rfl ?_
      exact Ev.iret rfl (by decide +kernel) (⟨by rw [zz_rat, if_neg (fun q => q.2.1 h9)], rfl⟩)
    · refine Ev.run [(.iload_n 1, 1), (.aload_n 0, 1)] (pc' := 14) (L' := [some (.ref k), some (.int p)]) (S' := [.ref k, .int p]) rfl (by decide +kernel) rfl ?_
      refine Ev.getf (idx := 9) (x := some (some (k + 1))) (v := .ref (k + 1)) rfl rfl (by decide +kernel) (hk.1) rfl rfl ?_
      refine Ev.alen (v := nI n) (by decide +kernel) (hk.2.1) rfl ?_
      refine Ev.icmp_ge (off := 12) (tgt := 30) (by decide +kernel) (by decide) (fun h18 => ?_) (fun h18 => ?_)
      · refine Ev.run [(.bipush (-6), 2)] (pc' := 32) (L' := [some (.ref k), some (.int p)]) (S' := [.int ((-6))]) rfl (by decide +kernel) rfl ?_
        exact Ev.iret rfl (by decide +kernel) (⟨by rw [zz_rat, if_neg (fun q => q.2.2 h18)], rfl⟩)
      · refine Ev.run [(.aload_n 0, 1)] (pc' := 22) (L' := [some (.ref k), some (.int p)]) (S' := [.ref k]) rfl (by decide +kernel) rfl ?_
        refine Ev.getf (idx := 9) (x := some (some (k + 1))) (v := .ref (k + 1)) rfl rfl (by decide +kernel) (hk.1) rfl rfl ?_
        refine Ev.run [(.iload_n 1, 1)] (pc' := 26) (L' := [some (.ref k), some (.int p)]) (S' := [.int p, .ref (k + 1)]) rfl (by decide +kernel) rfl ?_
        refine Ev.iald p.toNatClampNeg (by decide +kernel) (hk.2.1) (zz_ni h1) (zz_ni_lt h1 (Nat.lt_trans hk.2.2 (by decide)) h18) (by first | decide | omega) ?_
        refine Ev.goto (off := 5) (tgt := 32) (by decide +kernel) (by decide) ?_
        exact Ev.iret rfl (by decide +kernel) (⟨by rw [zz_rat, if_pos ⟨h1, h9, h18⟩], rfl⟩)

set_option maxRecDepth 100000 in
set_option maxHeartbeats 4000000 in
theorem c_X4_add_ok {sc : Nat × (Nat → Int32)} {d : Nat} (I : Nat → Nat → Int32) (J : Nat → Nat → Int64) (k n s : Nat) (v : Int32) (hk : zz_row k n) (hs : I k 1 = nI s) (hsn : s < n) : EvM sc (d) 0 0 mX4_add [.ref k, .int v] (zz_SH, I, J) (zz_is (.int 1) (zz_SH, zz_up (zz_up I (k + 1) s v) k 1 (nI (s + 1)), J)) := by
  have h99 := hk.2.2
  refine EvM.of (by decide) rfl (Nat.le_of_ble_eq_true rfl) ?_
  show Ev _ _ _ _ _ 0 [some (.ref k), some (.int v)] [] (zz_SH, I, J) _
  refine Ev.run [(.aload_n 0, 1)] (pc' := 1) (L' := [some (.ref k), some (.int v)]) (S' := [.ref k]) rfl (by decide +kernel) rfl ?_
  refine Ev.getf (idx := 15) (x := none) (v := .int (I k 1)) rfl rfl (by decide +kernel) (hk.1) rfl rfl ?_
  rw [hs]
  refine Ev.if_lt (off := 15) (tgt := 19) (by decide +kernel) (by decide) (fun h4 => ?_) (fun h4 => ?_)
  · have h4 : s < 0 := zz_bL_t (by omega) (by omega) h4
    exfalso; omega
  · have h4 : s ≥ 0 := zz_bL_f (by omega) (by omega) h4
    refine Ev.run [(.aload_n 0, 1)] (pc' := 8) (L' := [some (.ref k), some (.int v)]) (S' := [.ref k]) rfl (by decide +kernel) rfl ?_
    refine Ev.getf (idx := 15) (x := none) (v := .int (I k 1)) rfl rfl (by decide +kernel) (hk.1) rfl rfl ?_
    rw [hs]
    refine Ev.run [(.aload_n 0, 1)] (pc' := 12) (L' := [some (.ref k), some (.int v)]) (S' := [.ref k, .int (nI s)]) rfl (by decide +kernel) rfl ?_
    refine Ev.getf (idx := 9) (x := some (some (k + 1))) (v := .ref (k + 1)) rfl rfl (by decide +kernel) (hk.1) rfl rfl ?_
    refine Ev.alen (v := nI n) (by decide +kernel) (hk.2.1) rfl ?_
    refine Ev.icmp_lt (off := 5) (tgt := 21) (by decide +kernel) (by decide) (fun h16 => ?_) (fun h16 => ?_)
    · have h16 : s < n := zz_bL_t (by omega) (by omega) h16
      refine Ev.run [(.aload_n 0, 1)] (pc' := 22) (L' := [some (.ref k), some (.int v)]) (S' := [.ref k]) rfl (by decide +kernel) rfl ?_
      refine Ev.getf (idx := 9) (x := some (some (k + 1))) (v := .ref (k + 1)) rfl rfl (by decide +kernel) (hk.1) rfl rfl ?_
      refine Ev.run [(.aload_n 0, 1)] (pc' := 26) (L' := [some (.ref k), some (.int v)]) (S' := [.ref k, .ref (k + 1)]) rfl (by decide +kernel) rfl ?_
      refine Ev.getf (idx := 15) (x := none) (v := .int (I k 1)) rfl rfl (by decide +kernel) (hk.1) rfl rfl ?_
      rw [hs]
      refine Ev.run [(.iload_n 1, 1)] (pc' := 30) (L' := [some (.ref k), some (.int v)]) (S' := [.int v, .int (nI s), .ref (k + 1)]) rfl (by decide +kernel) rfl ?_
      refine Ev.iast s (by decide +kernel) (hk.2.1) (rfl) (by omega) (by first | decide | omega) ?_
      dsimp only
      refine Ev.run [(.aload_n 0, 1), (.dup, 1)] (pc' := 33) (L' := [some (.ref k), some (.int v)]) (S' := [.ref k, .ref k]) rfl (by decide +kernel) rfl ?_
      refine Ev.getf (idx := 15) (x := none) (v := .int ((zz_up I (k + 1) s v) k 1)) rfl rfl (by decide +kernel) (hk.1) rfl rfl ?_
      rw [show zz_up I (k + 1) s v k 1 = nI s from by rw [zz_up_ne (by omega)]; exact hs]
      refine Ev.run [(.iconst 1, 1), (.iadd, 1)] (pc' := 38) (L' := [some (.ref k), some (.int v)]) (S' := [.int (nI s + nI 1), .ref k]) rfl (by decide +kernel) rfl ?_
      rw [nI_add s 1]
      refine Ev.putf (idx := 15) rfl rfl rfl (by decide +kernel) (hk.1) rfl ?_
      dsimp only
      refine Ev.run [(.iconst 1, 1)] (pc' := 42) (L' := [some (.ref k), some (.int v)]) (S' := [.int (nI 1)]) rfl (by decide +kernel) rfl ?_
      exact Ev.zret rfl (by decide +kernel) (Or.inr rfl) (⟨rfl, rfl⟩)
    · have h16 : s ≥ n := zz_bL_f (by omega) (by omega) h16
      exfalso; omega

set_option maxRecDepth 100000 in
set_option maxHeartbeats 4000000 in
theorem c_X4_add_full {sc : Nat × (Nat → Int32)} {d : Nat} (I : Nat → Nat → Int32) (J : Nat → Nat → Int64) (k n s : Nat) (v : Int32) (hk : zz_row k n) (hs : I k 1 = nI s) (hsn : n ≤ s) (hs2 : s < 100) : EvM sc (d) 0 0 mX4_add [.ref k, .int v] (zz_SH, I, J) (zz_is (.int 0) (zz_SH, I, J)) := by
  have h99 := hk.2.2
  refine EvM.of (by decide) rfl (Nat.le_of_ble_eq_true rfl) ?_
  show Ev _ _ _ _ _ 0 [some (.ref k), some (.int v)] [] (zz_SH, I, J) _
  refine Ev.run [(.aload_n 0, 1)] (pc' := 1) (L' := [some (.ref k), some (.int v)]) (S' := [.ref k]) rfl (by decide +kernel) rfl ?_
  refine Ev.getf (idx := 15) (x := none) (v := .int (I k 1)) rfl rfl (by decide +kernel) (hk.1) rfl rfl ?_
  rw [hs]
  refine Ev.if_lt (off := 15) (tgt := 19) (by decide +kernel) (by decide) (fun h4 => ?_) (fun h4 => ?_)
  · have h4 : s < 0 := zz_bL_t (by omega) (by omega) h4
    exfalso; omega
  · have h4 : s ≥ 0 := zz_bL_f (by omega) (by omega) h4
    refine Ev.run [(.aload_n 0, 1)] (pc' := 8) (L' := [some (.ref k), some (.int v)]) (S' := [.ref k]) rfl (by decide +kernel) rfl ?_
    refine Ev.getf (idx := 15) (x := none) (v := .int (I k 1)) rfl rfl (by decide +kernel) (hk.1) rfl rfl ?_
    rw [hs]
    refine Ev.run [(.aload_n 0, 1)] (pc' := 12) (L' := [some (.ref k), some (.int v)]) (S' := [.ref k, .int (nI s)]) rfl (by decide +kernel) rfl ?_
    refine Ev.getf (idx := 9) (x := some (some (k + 1))) (v := .ref (k + 1)) rfl rfl (by decide +kernel) (hk.1) rfl rfl ?_
    refine Ev.alen (v := nI n) (by decide +kernel) (hk.2.1) rfl ?_
    refine Ev.icmp_lt (off := 5) (tgt := 21) (by decide +kernel) (by decide) (fun h16 => ?_) (fun h16 => ?_)
    · have h16 : s < n := zz_bL_t (by omega) (by omega) h16
      exfalso; omega
    · have h16 : s ≥ n := zz_bL_f (by omega) (by omega) h16
      refine Ev.run [(.iconst 0, 1)] (pc' := 20) (L' := [some (.ref k), some (.int v)]) (S' := [.int (nI 0)]) rfl (by decide +kernel) rfl ?_
      exact Ev.zret rfl (by decide +kernel) (Or.inl rfl) (⟨rfl, rfl⟩)

/-- the first place, or none -/
def zz_fp (f : Nat → Int32) (v : Int32) (s : Nat) (x : Int32) : Prop := (x = -6 ∧ ∀ j, j < s → f j ≠ v) ∨ ∃ j, j < s ∧ x = nI j ∧ f j = v ∧ ∀ i, i < j → f i ≠ v

set_option maxRecDepth 100000 in
set_option maxHeartbeats 4000000 in
theorem l_X4_placeOf {sc : Nat × (Nat → Int32)} {d : Nat} (I : Nat → Nat → Int32) (J : Nat → Nat → Int64) (k n s : Nat) (v : Int32) (hk : zz_row k n) (hs : I k 1 = nI s) (hsn : s ≤ n) : ∀ (μ : Nat) (i : Nat), s - i < μ → (i ≤ s) → (∀ j, j < i → I (k + 1) j ≠ v) →  Ev sc (d + 1) 0 0 mX4_placeOf 2 [some (.ref k), some (.int v), some (.int (nI i))] [] (zz_SH, I, J) (fun r σ => σ = (zz_SH, I, J) ∧ ∃ x : Int32, r = some (.int x) ∧ zz_fp (I (k + 1)) v s x) := by
  intro μ
  induction μ with
  | zero => intro i hμ; exact absurd hμ (Nat.not_lt_zero _)
  | succ μ ih =>
    intro i hμ hi hno
    have h99 := hk.2.2
    refine Ev.run [(.iload_n 2, 1), (.aload_n 0, 1)] (pc' := 4) (L' := [some (.ref k), some (.int v), some (.int (nI i))]) (S' := [.ref k, .int (nI i)]) rfl (by decide +kernel) rfl ?_
    refine Ev.getf (idx := 15) (x := none) (v := .int (I k 1)) rfl rfl (by decide +kernel) (hk.1) rfl rfl ?_
    rw [hs]
    refine Ev.icmp_ge (off := 20) (tgt := 27) (by decide +kernel) (by decide) (fun h7 => ?_) (fun h7 => ?_)
    · have h7 : i ≥ s := zz_bG_t (by omega) (by omega) h7
      refine Ev.run [(.bipush (-6), 2)] (pc' := 29) (L' := [some (.ref k), some (.int v), some (.int (nI i))]) (S' := [.int ((-6))]) rfl (by decide +kernel) rfl ?_
      exact Ev.iret rfl (by decide +kernel) (⟨rfl, _, rfl, Or.inl ⟨rfl, fun j hj => hno j (by omega)⟩⟩)
    · have h7 : i < s := zz_bG_f (by omega) (by omega) h7
      refine Ev.run [(.aload_n 0, 1), (.iload_n 2, 1)] (pc' := 12) (L' := [some (.ref k), some (.int v), some (.int (nI i))]) (S' := [.int (nI i), .ref k]) rfl (by decide +kernel) rfl ?_
      refine Ev.callV0 mX4_at [.int (nI i)] [] _ rfl lk_RX4_19 (by decide +kernel) (hk.1) rfl rfl rfl (Nat.le_of_ble_eq_true rfl) (c_X4_at I J k n (nI i) hk) ?_
      rintro _ _ ⟨rfl, rfl⟩
      rw [zz_rat_in hs hsn hk.2.2 (by omega)]
      show Ev _ _ _ _ _ 15 [some (.ref k), some (.int v), some (.int (nI i))] [.int (I (k + 1) i)] (zz_SH, I, J) _
      refine Ev.run [(.iload_n 1, 1)] (pc' := 16) (L' := [some (.ref k), some (.int v), some (.int (nI i))]) (S' := [.int v, .int (I (k + 1) i)]) rfl (by decide +kernel) rfl ?_
      refine Ev.icmp_ne (off := 5) (tgt := 21) (by decide +kernel) (by decide) (fun h16 => ?_) (fun h16 => ?_)
      · refine Ev.run [(.iinc 2 1, 3)] (pc' := 24) (L' := [some (.ref k), some (.int v), some (.int (nI i + 1))]) (S' := []) rfl (by decide +kernel) rfl ?_
        rw [nI_1 i]
        refine Ev.goto (off := (-22)) (tgt := 2) (by decide +kernel) (by decide) ?_
        exact ih (i + 1) (by omega) (by omega) (lt_s hno h16)
      · exact Ev.run [(.iload_n 2, 1)] (pc' := 20) (L' := [some (.ref k), some (.int v), some (.int (nI i))]) (S' := [.int (nI i)]) rfl (by decide +kernel) rfl (Ev.iret rfl (by decide +kernel) ⟨rfl, _, rfl, Or.inr ⟨i, by omega, rfl, h16, hno⟩⟩)

set_option maxRecDepth 100000 in
set_option maxHeartbeats 4000000 in
theorem c_X4_placeOf {sc : Nat × (Nat → Int32)} {d : Nat} (I : Nat → Nat → Int32) (J : Nat → Nat → Int64) (k n s : Nat) (v : Int32) (hk : zz_row k n) (hs : I k 1 = nI s) (hsn : s ≤ n) : EvM sc (d + 1) 0 0 mX4_placeOf [.ref k, .int v] (zz_SH, I, J) (fun r σ => σ = (zz_SH, I, J) ∧ ∃ x : Int32, r = some (.int x) ∧ zz_fp (I (k + 1)) v s x) := by
  refine EvM.of (by decide) rfl (Nat.le_of_ble_eq_true rfl) ?_
  show Ev _ _ _ _ _ 0 [some (.ref k), some (.int v), none] [] (zz_SH, I, J) _
  refine Ev.run [(.iconst 0, 1), (.istore_n 2, 1)] (pc' := 2) (L' := [some (.ref k), some (.int v), some (.int (nI 0))]) (S' := []) rfl (by decide +kernel) rfl ?_
  exact l_X4_placeOf I J k n s v hk hs hsn (s + 1) 0 (by omega) (by omega) (fun j hj => absurd hj (Nat.not_lt_zero j))

/-- how often -/
def zz_ct (f : Nat → Int32) (v : Int32) : Nat → Nat
  | 0 => 0
  | n + 1 => zz_ct f v n + (if f n = v then 1 else 0)
theorem zz_ct_le (f : Nat → Int32) (v : Int32) : ∀ n, zz_ct f v n ≤ n
  | 0 => Nat.le_refl _
  | n + 1 => by
    have := zz_ct_le f v n
    rw [zz_ct]
    split <;> omega

set_option maxRecDepth 100000 in
set_option maxHeartbeats 4000000 in
theorem l_X4_timesOf {sc : Nat × (Nat → Int32)} {d : Nat} (I : Nat → Nat → Int32) (J : Nat → Nat → Int64) (k n s : Nat) (v : Int32) (hk : zz_row k n) (hs : I k 1 = nI s) (hsn : s ≤ n) : ∀ (μ : Nat) (i : Nat), s - i < μ → (i ≤ s) →  Ev sc (d + 1) 0 0 mX4_timesOf 4 [some (.ref k), some (.int v), some (.int (nI (zz_ct (I (k + 1)) v i))), some (.int (nI i))] [] (zz_SH, I, J) (zz_is (.int (nI (zz_ct (I (k + 1)) v s))) (zz_SH, I, J)) := by
  intro μ
  induction μ with
  | zero => intro i hμ; exact absurd hμ (Nat.not_lt_zero _)
  | succ μ ih =>
    intro i hμ hi
    have h99 := hk.2.2
    refine Ev.run [(.iload_n 3, 1), (.aload_n 0, 1)] (pc' := 6) (L' := [some (.ref k), some (.int v), some (.int (nI (zz_ct (I (k + 1)) v i))), some (.int (nI i))]) (S' := [.ref k, .int (nI i)]) rfl (by decide +kernel) rfl ?_
    refine Ev.getf (idx := 15) (x := none) (v := .int (I k 1)) rfl rfl (by decide +kernel) (hk.1) rfl rfl ?_
    rw [hs]
    refine Ev.icmp_ge (off := 21) (tgt := 30) (by decide +kernel) (by decide) (fun h9 => ?_) (fun h9 => ?_)
    · have h9 : i ≥ s := zz_bG_t (by omega) (by omega) h9
      have hie : i = s := by omega
      subst hie
      refine Ev.run [(.iload_n 2, 1)] (pc' := 31) (L' := [some (.ref k), some (.int v), some (.int (nI (zz_ct (I (k + 1)) v i))), some (.int (nI i))]) (S' := [.int (nI (zz_ct (I (k + 1)) v i))]) rfl (by decide +kernel) rfl ?_
      exact Ev.iret rfl (by decide +kernel) (⟨rfl, rfl⟩)
    · have h9 : i < s := zz_bG_f (by omega) (by omega) h9
      refine Ev.run [(.aload_n 0, 1), (.iload_n 3, 1)] (pc' := 14) (L' := [some (.ref k), some (.int v), some (.int (nI (zz_ct (I (k + 1)) v i))), some (.int (nI i))]) (S' := [.int (nI i), .ref k]) rfl (by decide +kernel) rfl ?_
      refine Ev.callV0 mX4_at [.int (nI i)] [] _ rfl lk_RX4_19 (by decide +kernel) (hk.1) rfl rfl rfl (Nat.le_of_ble_eq_true rfl) (c_X4_at I J k n (nI i) hk) ?_
      rintro _ _ ⟨rfl, rfl⟩
      rw [zz_rat_in hs hsn hk.2.2 (by omega)]
      show Ev _ _ _ _ _ 17 [some (.ref k), some (.int v), some (.int (nI (zz_ct (I (k + 1)) v i))), some (.int (nI i))] [.int (I (k + 1) i)] (zz_SH, I, J) _
      refine Ev.run [(.iload_n 1, 1)] (pc' := 18) (L' := [some (.ref k), some (.int v), some (.int (nI (zz_ct (I (k + 1)) v i))), some (.int (nI i))]) (S' := [.int v, .int (I (k + 1) i)]) rfl (by decide +kernel) rfl ?_
      refine Ev.icmp_ne (off := 6) (tgt := 24) (by decide +kernel) (by decide) (fun h18 => ?_) (fun h18 => ?_)
      · have hct : zz_ct (I (k + 1)) v i = zz_ct (I (k + 1)) v (i + 1) := by rw [zz_ct, if_neg h18]; rfl
        rw [hct]
        refine Ev.run [(.iinc 3 1, 3)] (pc' := 27) (L' := [some (.ref k), some (.int v), some (.int (nI (zz_ct (I (k + 1)) v (i + 1)))), some (.int (nI i + 1))]) (S' := []) rfl (by decide +kernel) rfl ?_
        rw [nI_1 i]
        refine Ev.goto (off := (-23)) (tgt := 4) (by decide +kernel) (by decide) ?_
        exact ih (i + 1) (by omega) (by omega)
      · have hct : zz_ct (I (k + 1)) v i + 1 = zz_ct (I (k + 1)) v (i + 1) := by rw [zz_ct, if_pos h18]
        refine Ev.run [(.iinc 2 1, 3)] (pc' := 24) (L' := [some (.ref k), some (.int v), some (.int (nI (zz_ct (I (k + 1)) v i) + 1)), some (.int (nI i))]) (S' := []) rfl (by decide +kernel) rfl ?_
        rw [nI_1 (zz_ct (I (k + 1)) v i)]
        refine Ev.run [(.iinc 3 1, 3)] (pc' := 27) (L' := [some (.ref k), some (.int v), some (.int (nI ((zz_ct (I (k + 1)) v i) + 1))), some (.int (nI i + 1))]) (S' := []) rfl (by decide +kernel) rfl ?_
        rw [nI_1 i]
        refine Ev.goto (off := (-23)) (tgt := 4) (by decide +kernel) (by decide) ?_
        rw [hct]
        exact ih (i + 1) (by omega) (by omega)

set_option maxRecDepth 100000 in
set_option maxHeartbeats 4000000 in
theorem c_X4_timesOf {sc : Nat × (Nat → Int32)} {d : Nat} (I : Nat → Nat → Int32) (J : Nat → Nat → Int64) (k n s : Nat) (v : Int32) (hk : zz_row k n) (hs : I k 1 = nI s) (hsn : s ≤ n) : EvM sc (d + 1) 0 0 mX4_timesOf [.ref k, .int v] (zz_SH, I, J) (zz_is (.int (nI (zz_ct (I (k + 1)) v s))) (zz_SH, I, J)) := by
  refine EvM.of (by decide) rfl (Nat.le_of_ble_eq_true rfl) ?_
  show Ev _ _ _ _ _ 0 [some (.ref k), some (.int v), none, none] [] (zz_SH, I, J) _
  refine Ev.run [(.iconst 0, 1), (.istore_n 2, 1), (.iconst 0, 1), (.istore_n 3, 1)] (pc' := 4) (L' := [some (.ref k), some (.int v), some (.int (nI 0)), some (.int (nI 0))]) (S' := []) rfl (by decide +kernel) rfl ?_
  exact l_X4_timesOf I J k n s v hk hs hsn (s + 1) 0 (by omega) (by omega)

set_option maxRecDepth 100000 in
set_option maxHeartbeats 4000000 in
theorem l_X4_sameAs {sc : Nat × (Nat → Int32)} {d : Nat} (I : Nat → Nat → Int32) (J : Nat → Nat → Int64) (k n s q nq t : Nat) (hk : zz_row k n) (hs : I k 1 = nI s) (hsn : s ≤ n) (hq : zz_row q nq) (ht : I q 1 = nI t) (htn : t ≤ nq) (hst : s = t) : ∀ (μ : Nat) (i : Nat), s - i < μ → (i ≤ s) → (∀ j, j < i → I (k + 1) j = I (q + 1) j) →  Ev sc (d + 1) 0 0 mX4_sameAs 15 [some (.ref k), some (.ref q), some (.int (nI i))] [] (zz_SH, I, J) (fun r σ => σ = (zz_SH, I, J) ∧ ((r = some (.int 1) ∧ s = t ∧ ∀ j, j < s → I (k + 1) j = I (q + 1) j) ∨ (r = some (.int 0) ∧ ¬ (s = t ∧ ∀ j, j < s → I (k + 1) j = I (q + 1) j)))) := by
  intro μ
  induction μ with
  | zero => intro i hμ; exact absurd hμ (Nat.not_lt_zero _)
  | succ μ ih =>
    intro i hμ hi hal
    have h99 := hk.2.2
    have h98 := hq.2.2
    refine Ev.run [(.iload_n 2, 1), (.aload_n 0, 1)] (pc' := 17) (L' := [some (.ref k), some (.ref q), some (.int (nI i))]) (S' := [.ref k, .int (nI i)]) rfl (by decide +kernel) rfl ?_
    refine Ev.getf (idx := 15) (x := none) (v := .int (I k 1)) rfl rfl (by decide +kernel) (hk.1) rfl rfl ?_
    rw [hs]
    refine Ev.icmp_ge (off := 24) (tgt := 44) (by decide +kernel) (by decide) (fun h20 => ?_) (fun h20 => ?_)
    · have h20 : i ≥ s := zz_bG_t (by omega) (by omega) h20
      refine Ev.run [(.iconst 1, 1)] (pc' := 45) (L' := [some (.ref k), some (.ref q), some (.int (nI i))]) (S' := [.int (nI 1)]) rfl (by decide +kernel) rfl ?_
      exact Ev.zret rfl (by decide +kernel) (Or.inr rfl) (⟨rfl, Or.inl ⟨rfl, hst, fun j hj => hal j (by omega)⟩⟩)
    · have h20 : i < s := zz_bG_f (by omega) (by omega) h20
      refine Ev.run [(.aload_n 0, 1), (.iload_n 2, 1)] (pc' := 25) (L' := [some (.ref k), some (.ref q), some (.int (nI i))]) (S' := [.int (nI i), .ref k]) rfl (by decide +kernel) rfl ?_
      refine Ev.callV0 mX4_at [.int (nI i)] [] _ rfl lk_RX4_19 (by decide +kernel) (hk.1) rfl rfl rfl (Nat.le_of_ble_eq_true rfl) (c_X4_at I J k n (nI i) hk) ?_
      rintro _ _ ⟨rfl, rfl⟩
      rw [zz_rat_in hs hsn hk.2.2 (by omega)]
      show Ev _ _ _ _ _ 28 [some (.ref k), some (.ref q), some (.int (nI i))] [.int (I (k + 1) i)] (zz_SH, I, J) _
      refine Ev.run [(.aload_n 1, 1), (.iload_n 2, 1)] (pc' := 30) (L' := [some (.ref k), some (.ref q), some (.int (nI i))]) (S' := [.int (nI i), .ref q, .int (I (k + 1) i)]) rfl (by decide +kernel) rfl ?_
      refine Ev.callV0 mX4_at [.int (nI i)] [.int (I (k + 1) i)] _ rfl lk_RX4_19 (by decide +kernel) (hq.1) rfl rfl rfl (Nat.le_of_ble_eq_true rfl) (c_X4_at I J q nq (nI i) hq) ?_
      rintro _ _ ⟨rfl, rfl⟩
      rw [zz_rat_in ht htn hq.2.2 (by omega)]
      show Ev _ _ _ _ _ 33 [some (.ref k), some (.ref q), some (.int (nI i))] [.int (I (q + 1) i), .int (I (k + 1) i)] (zz_SH, I, J) _
      refine Ev.icmp_eq (off := 5) (tgt := 38) (by decide +kernel) (by decide) (fun h33 => ?_) (fun h33 => ?_)
      · refine Ev.run [(.iinc 2 1, 3)] (pc' := 41) (L' := [some (.ref k), some (.ref q), some (.int (nI i + 1))]) (S' := []) rfl (by decide +kernel) rfl ?_
        rw [nI_1 i]
        refine Ev.goto (off := (-26)) (tgt := 15) (by decide +kernel) (by decide) ?_
        exact ih (i + 1) (by omega) (by omega) (lt_s hal h33)
      · refine Ev.run [(.iconst 0, 1)] (pc' := 37) (L' := [some (.ref k), some (.ref q), some (.int (nI i))]) (S' := [.int (nI 0)]) rfl (by decide +kernel) rfl ?_
        exact Ev.zret rfl (by decide +kernel) (Or.inl rfl) (⟨rfl, Or.inr ⟨rfl, fun hh => h33 (hh.2 i (by omega))⟩⟩)

set_option maxRecDepth 100000 in
set_option maxHeartbeats 4000000 in
theorem c_X4_sameAs {sc : Nat × (Nat → Int32)} {d : Nat} (I : Nat → Nat → Int32) (J : Nat → Nat → Int64) (k n s q nq t : Nat) (hk : zz_row k n) (hs : I k 1 = nI s) (hsn : s ≤ n) (hq : zz_row q nq) (ht : I q 1 = nI t) (htn : t ≤ nq) : EvM sc (d + 1) 0 0 mX4_sameAs [.ref k, .ref q] (zz_SH, I, J) (fun r σ => σ = (zz_SH, I, J) ∧ ((r = some (.int 1) ∧ s = t ∧ ∀ j, j < s → I (k + 1) j = I (q + 1) j) ∨ (r = some (.int 0) ∧ ¬ (s = t ∧ ∀ j, j < s → I (k + 1) j = I (q + 1) j)))) := by
  have h99 := hk.2.2
  have h98 := hq.2.2
  refine EvM.of (by decide) rfl (Nat.le_of_ble_eq_true rfl) ?_
  show Ev _ _ _ _ _ 0 [some (.ref k), some (.ref q), none] [] (zz_SH, I, J) _
  refine Ev.run [(.aload_n 0, 1)] (pc' := 1) (L' := [some (.ref k), some (.ref q), none]) (S' := [.ref k]) rfl (by decide +kernel) rfl ?_
  refine Ev.getf (idx := 15) (x := none) (v := .int (I k 1)) rfl rfl (by decide +kernel) (hk.1) rfl rfl ?_
  rw [hs]
  refine Ev.run [(.aload_n 1, 1)] (pc' := 5) (L' := [some (.ref k), some (.ref q), none]) (S' := [.ref q, .int (nI s)]) rfl (by decide +kernel) rfl ?_
  refine Ev.getf (idx := 15) (x := none) (v := .int (I q 1)) rfl rfl (by decide +kernel) (hq.1) rfl rfl ?_
  rw [ht]
  refine Ev.icmp_eq (off := 5) (tgt := 13) (by decide +kernel) (by decide) (fun h8 => ?_) (fun h8 => ?_)
  · have h8 : s = t := zz_bE_t (by omega) (by omega) h8
    refine Ev.run [(.iconst 0, 1), (.istore_n 2, 1)] (pc' := 15) (L' := [some (.ref k), some (.ref q), some (.int (nI 0))]) (S' := []) rfl (by decide +kernel) rfl ?_
    exact l_X4_sameAs I J k n s q nq t hk hs hsn hq ht htn h8 (s + 1) 0 (by omega) (by omega) (fun j hj => absurd hj (Nat.not_lt_zero j))
  · have h8 : ¬ s = t := zz_bE_f (by omega) (by omega) h8
    refine Ev.run [(.iconst 0, 1)] (pc' := 12) (L' := [some (.ref k), some (.ref q), none]) (S' := [.int (nI 0)]) rfl (by decide +kernel) rfl ?_
    exact Ev.zret rfl (by decide +kernel) (Or.inl rfl) (⟨rfl, Or.inr ⟨rfl, fun hh => h8 hh.1⟩⟩)

/-- the store with the row k set to f, of size s -/
def zz_sr (I : Nat → Nat → Int32) (k : Nat) (f : Nat → Int32) (s : Nat) : Nat → Nat → Int32 := fun c => if c = k + 1 then f else if c = k then upd (I k) 1 (nI s) else I c
def zz_mix (g f : Nat → Int32) (i : Nat) : Nat → Int32 := fun j => if j < i then g j else f j
theorem zz_sr_o {I : Nat → Nat → Int32} {k s c : Nat} {f : Nat → Int32} (h1 : c ≠ k) (h2 : c ≠ k + 1) : zz_sr I k f s c = I c := by rw [zz_sr, if_neg h2, if_neg h1]
theorem zz_sr_f (I : Nat → Nat → Int32) (k s : Nat) (f : Nat → Int32) : zz_sr I k f s (k + 1) = f := if_pos rfl
theorem zz_sr_s (I : Nat → Nat → Int32) (k s : Nat) (f : Nat → Int32) : zz_sr I k f s k 1 = nI s := by
  rw [zz_sr, if_neg (by omega), if_pos rfl]; simp [upd]
theorem zz_mix0 (g f : Nat → Int32) : zz_mix g f 0 = f := funext fun j => if_neg (Nat.not_lt_zero j)
theorem zz_mix1 (g f : Nat → Int32) (i : Nat) : upd (zz_mix g f i) i (g i) = zz_mix g f (i + 1) := by
  funext j
  by_cases h : j = i
  · subst h
    simp [upd, zz_mix]
  · by_cases h2 : j < i
    · simp [upd, zz_mix, h, h2, Nat.lt_succ_of_lt h2]
    · simp [upd, zz_mix, h, h2, show ¬ j < i + 1 by omega]
theorem zz_mix_in {g f : Nat → Int32} {i j : Nat} (h : j < i) : zz_mix g f i j = g j := if_pos h
theorem zz_sr0 (I : Nat → Nat → Int32) (k : Nat) : zz_up I k 1 (nI 0) = zz_sr I k (I (k + 1)) 0 := by
  funext c
  by_cases h : c = k
  · subst h
    rw [zz_up_eq, zz_sr, if_neg (by omega), if_pos rfl]
  · rw [zz_up_ne h, zz_sr]
    by_cases h2 : c = k + 1
    · rw [if_pos h2, h2]
    · rw [if_neg h2, if_neg h]
theorem zz_sr1 (I : Nat → Nat → Int32) (k i : Nat) (f : Nat → Int32) (v : Int32) : zz_up (zz_up (zz_sr I k f i) (k + 1) i v) k 1 (nI (i + 1)) = zz_sr I k (upd f i v) (i + 1) := by
  funext c
  by_cases h : c = k
  · subst h
    rw [zz_up_eq, zz_up_ne (by omega), zz_sr, if_neg (by omega), if_pos rfl, zz_sr, if_neg (by omega), if_pos rfl]
    funext j
    by_cases hj : j = 1 <;> simp [upd, hj]
  · rw [zz_up_ne h]
    by_cases h2 : c = k + 1
    · subst h2
      rw [zz_up_eq, zz_sr_f, zz_sr_f]
    · rw [zz_up_ne h2, zz_sr_o h h2, zz_sr_o h h2]

set_option maxRecDepth 100000 in
set_option maxHeartbeats 4000000 in
theorem l_X4_takePart {sc : Nat × (Nat → Int32)} {d : Nat} (I : Nat → Nat → Int32) (J : Nat → Nat → Int64) (k n q nq t a b : Nat) (hk : zz_row k n) (hq : zz_row q nq) (ht : I q 1 = nI t) (htn : t ≤ nq) (hne : q ≠ k ∧ q ≠ k + 1 ∧ q + 1 ≠ k) (hab : a ≤ b) (hbt : b ≤ t) (hbn : b - a ≤ n) : ∀ (μ : Nat) (i : Nat), b - (a + i) < μ → (a + i ≤ b) →  Ev sc (d + 1) 0 0 mX4_takePart 8 [some (.ref k), some (.ref q), some (.int (nI a)), some (.int (nI b)), some (.int (nI (a + i)))] [] (zz_SH, zz_sr I k (zz_mix (fun j => I (q + 1) (a + j)) (I (k + 1)) i) i, J) (zz_iv (zz_SH, zz_sr I k (zz_mix (fun j => I (q + 1) (a + j)) (I (k + 1)) (b - a)) (b - a), J)) := by
  intro μ
  induction μ with
  | zero => intro i hμ; exact absurd hμ (Nat.not_lt_zero _)
  | succ μ ih =>
    intro i hμ hi
    have h99 := hk.2.2
    have h98 := hq.2.2
    refine Ev.run [(.iload 4, 2), (.iload_n 3, 1)] (pc' := 11) (L' := [some (.ref k), some (.ref q), some (.int (nI a)), some (.int (nI b)), some (.int (nI (a + i)))]) (S' := [.int (nI b), .int (nI (a + i))]) rfl (by decide +kernel) rfl ?_
    refine Ev.icmp_ge (off := 20) (tgt := 31) (by decide +kernel) (by decide) (fun h11 => ?_) (fun h11 => ?_)
    · have h11 : (a + i) ≥ b := zz_bG_t (by omega) (by omega) h11
      have hie : i = b - a := by omega
      subst hie
      exact Ev.vret rfl (by decide +kernel) (⟨rfl, rfl⟩)
    · have h11 : (a + i) < b := zz_bG_f (by omega) (by omega) h11
      refine Ev.run [(.aload_n 0, 1), (.aload_n 1, 1), (.iload 4, 2)] (pc' := 18) (L' := [some (.ref k), some (.ref q), some (.int (nI a)), some (.int (nI b)), some (.int (nI (a + i)))]) (S' := [.int (nI (a + i)), .ref q, .ref k]) rfl (by decide +kernel) rfl ?_
      refine Ev.callV0 mX4_at [.int (nI (a + i))] [.ref k] _ rfl lk_RX4_19 (by decide +kernel) (hq.1) rfl rfl rfl (Nat.le_of_ble_eq_true rfl) (c_X4_at (zz_sr I k (zz_mix (fun j => I (q + 1) (a + j)) (I (k + 1)) i) i) J q nq (nI (a + i)) hq) ?_
      rintro _ _ ⟨rfl, rfl⟩
      rw [zz_rat_in (s := t) (by rw [zz_sr_o hne.1 hne.2.1]; exact ht) htn hq.2.2 (by omega), zz_sr_o hne.2.2 (by omega)]
      show Ev _ _ _ _ _ 21 [some (.ref k), some (.ref q), some (.int (nI a)), some (.int (nI b)), some (.int (nI (a + i)))] [.int (I (q + 1) (a + i)), .ref k] (zz_SH, zz_sr I k (zz_mix (fun j => I (q + 1) (a + j)) (I (k + 1)) i) i, J) _
      refine Ev.callV0 mX4_add [.int (I (q + 1) (a + i))] [] _ rfl lk_RX4_23 (by decide +kernel) (hk.1) rfl rfl rfl (Nat.le_of_ble_eq_true rfl) (c_X4_add_ok (zz_sr I k (zz_mix (fun j => I (q + 1) (a + j)) (I (k + 1)) i) i) J k n i (I (q + 1) (a + i)) hk (zz_sr_s I k i _) (by omega)) ?_
      rintro _ _ ⟨rfl, rfl⟩
      rw [zz_sr1, show upd (zz_mix (fun j => I (q + 1) (a + j)) (I (k + 1)) i) i (I (q + 1) (a + i)) = zz_mix (fun j => I (q + 1) (a + j)) (I (k + 1)) (i + 1) from zz_mix1 (fun j => I (q + 1) (a + j)) _ i]
      show Ev _ _ _ _ _ 24 [some (.ref k), some (.ref q), some (.int (nI a)), some (.int (nI b)), some (.int (nI (a + i)))] [.int 1] (zz_SH, zz_sr I k (zz_mix (fun j => I (q + 1) (a + j)) (I (k + 1)) (i + 1)) (i + 1), J) _
      refine Ev.run [(.pop, 1), (.iinc 4 1, 3)] (pc' := 28) (L' := [some (.ref k), some (.ref q), some (.int (nI a)), some (.int (nI b)), some (.int (nI (a + i) + 1))]) (S' := []) rfl (by decide +kernel) rfl ?_
      rw [nI_1 (a + i)]
      refine Ev.goto (off := (-20)) (tgt := 8) (by decide +kernel) (by decide) ?_
      rw [show a + i + 1 = a + (i + 1) by omega]
      exact ih (i + 1) (by omega) (by omega)

set_option maxRecDepth 100000 in
set_option maxHeartbeats 4000000 in
theorem c_X4_takePart {sc : Nat × (Nat → Int32)} {d : Nat} (I : Nat → Nat → Int32) (J : Nat → Nat → Int64) (k n q nq t a b : Nat) (hk : zz_row k n) (hq : zz_row q nq) (ht : I q 1 = nI t) (htn : t ≤ nq) (hne : q ≠ k ∧ q ≠ k + 1 ∧ q + 1 ≠ k) (hab : a ≤ b) (hbt : b ≤ t) (hbn : b - a ≤ n) : EvM sc (d + 1) 0 0 mX4_takePart [.ref k, .ref q, .int (nI a), .int (nI b)] (zz_SH, I, J) (zz_iv (zz_SH, zz_sr I k (zz_mix (fun j => I (q + 1) (a + j)) (I (k + 1)) (b - a)) (b - a), J)) := by
  refine EvM.of (by decide) rfl (Nat.le_of_ble_eq_true rfl) ?_
  show Ev _ _ _ _ _ 0 [some (.ref k), some (.ref q), some (.int (nI a)), some (.int (nI b)), none] [] (zz_SH, I, J) _
  refine Ev.run [(.aload_n 0, 1), (.iconst 0, 1)] (pc' := 2) (L' := [some (.ref k), some (.ref q), some (.int (nI a)), some (.int (nI b)), none]) (S' := [.int (nI 0), .ref k]) rfl (by decide +kernel) rfl ?_
  refine Ev.putf (idx := 15) rfl rfl rfl (by decide +kernel) (hk.1) rfl ?_
  dsimp only
  rw [zz_sr0]
  refine Ev.run [(.iload_n 2, 1), (.istore 4, 2)] (pc' := 8) (L' := [some (.ref k), some (.ref q), some (.int (nI a)), some (.int (nI b)), some (.int (nI a))]) (S' := []) rfl (by decide +kernel) rfl ?_
  have h0 := l_X4_takePart I J k n q nq t a b hk hq ht htn hne hab hbt hbn (b + 1) 0 (by omega) (by omega) (sc := sc) (d := d)
  rw [zz_mix0] at h0
  exact h0

set_option maxRecDepth 100000 in
set_option maxHeartbeats 4000000 in
theorem c_X4_take {sc : Nat × (Nat → Int32)} {d : Nat} (I : Nat → Nat → Int32) (J : Nat → Nat → Int64) (k n q nq t : Nat) (hk : zz_row k n) (hq : zz_row q nq) (ht : I q 1 = nI t) (htn : t ≤ nq) (hne : q ≠ k ∧ q ≠ k + 1 ∧ q + 1 ≠ k) (hbn : t ≤ n) : EvM sc (d + 2) 0 0 mX4_take [.ref k, .ref q] (zz_SH, I, J) (zz_iv (zz_SH, zz_sr I k (zz_mix (I (q + 1)) (I (k + 1)) t) t, J)) := by
  refine EvM.of (by decide) rfl (Nat.le_of_ble_eq_true rfl) ?_
  show Ev _ _ _ _ _ 0 [some (.ref k), some (.ref q)] [] (zz_SH, I, J) _
  refine Ev.run [(.aload_n 0, 1), (.aload_n 1, 1), (.iconst 0, 1), (.aload_n 1, 1)] (pc' := 4) (L' := [some (.ref k), some (.ref q)]) (S' := [.ref q, .int (nI 0), .ref q, .ref k]) rfl (by decide +kernel) rfl ?_
  refine Ev.getf (idx := 15) (x := none) (v := .int (I q 1)) rfl rfl (by decide +kernel) (hq.1) rfl rfl ?_
  rw [ht]
  refine Ev.callV0 mX4_takePart [.ref q, .int (nI 0), .int (nI t)] [] _ rfl lk_RX4_27 (by decide +kernel) (hk.1) rfl rfl rfl (Nat.le_of_ble_eq_true rfl) (c_X4_takePart I J k n q nq t 0 t hk hq ht htn hne (Nat.zero_le _) (Nat.le_refl _) hbn) ?_
  rintro _ _ ⟨rfl, rfl⟩
  rw [show (fun j => I (q + 1) (0 + j)) = I (q + 1) from funext fun j => by rw [Nat.zero_add], Nat.sub_zero]
  show Ev _ _ _ _ _ 10 [some (.ref k), some (.ref q)] [] (zz_SH, zz_sr I k (zz_mix (I (q + 1)) (I (k + 1)) t) t, J) _
  exact Ev.vret rfl (by decide +kernel) (⟨rfl, rfl⟩)

set_option maxRecDepth 100000 in
set_option maxHeartbeats 4000000 in
theorem c_X4_put {sc : Nat × (Nat → Int32)} {d : Nat} (I : Nat → Nat → Int32) (J : Nat → Nat → Int64) (k n s p : Nat) (v : Int32) (hk : zz_row k n) (hs : I k 1 = nI s) (hsn : s ≤ n) (hps : p < s) : EvM sc (d) 0 0 mX4_put [.ref k, .int (nI p), .int v] (zz_SH, I, J) (zz_iv (zz_SH, zz_up I (k + 1) p v, J)) := by
  have h99 := hk.2.2
  refine EvM.of (by decide) rfl (Nat.le_of_ble_eq_true rfl) ?_
  show Ev _ _ _ _ _ 0 [some (.ref k), some (.int (nI p)), some (.int v)] [] (zz_SH, I, J) _
  refine Ev.run [(.iload_n 1, 1)] (pc' := 1) (L' := [some (.ref k), some (.int (nI p)), some (.int v)]) (S' := [.int (nI p)]) rfl (by decide +kernel) rfl ?_
  refine Ev.if_lt (off := 27) (tgt := 28) (by decide +kernel) (by decide) (fun h1 => ?_) (fun h1 => ?_)
  · have h1 : p < 0 := zz_bL_t (by omega) (by omega) h1
    exfalso; omega
  · have h1 : p ≥ 0 := zz_bL_f (by omega) (by omega) h1
    refine Ev.run [(.iload_n 1, 1), (.aload_n 0, 1)] (pc' := 6) (L' := [some (.ref k), some (.int (nI p)), some (.int v)]) (S' := [.ref k, .int (nI p)]) rfl (by decide +kernel) rfl ?_
    refine Ev.getf (idx := 15) (x := none) (v := .int (I k 1)) rfl rfl (by decide +kernel) (hk.1) rfl rfl ?_
    rw [hs]
    refine Ev.icmp_ge (off := 19) (tgt := 28) (by decide +kernel) (by decide) (fun h9 => ?_) (fun h9 => ?_)
    · have h9 : p ≥ s := zz_bG_t (by omega) (by omega) h9
      exfalso; omega
    · have h9 : p < s := zz_bG_f (by omega) (by omega) h9
      refine Ev.run [(.iload_n 1, 1), (.aload_n 0, 1)] (pc' := 14) (L' := [some (.ref k), some (.int (nI p)), some (.int v)]) (S' := [.ref k, .int (nI p)]) rfl (by decide +kernel) rfl ?_
      refine Ev.getf (idx := 9) (x := some (some (k + 1))) (v := .ref (k + 1)) rfl rfl (by decide +kernel) (hk.1) rfl rfl ?_
      refine Ev.alen (v := nI n) (by decide +kernel) (hk.2.1) rfl ?_
      refine Ev.icmp_ge (off := 10) (tgt := 28) (by decide +kernel) (by decide) (fun h18 => ?_) (fun h18 => ?_)
      · have h18 : p ≥ n := zz_bG_t (by omega) (by omega) h18
        exfalso; omega
      · have h18 : p < n := zz_bG_f (by omega) (by omega) h18
        refine Ev.run [(.aload_n 0, 1)] (pc' := 22) (L' := [some (.ref k), some (.int (nI p)), some (.int v)]) (S' := [.ref k]) rfl (by decide +kernel) rfl ?_
        refine Ev.getf (idx := 9) (x := some (some (k + 1))) (v := .ref (k + 1)) rfl rfl (by decide +kernel) (hk.1) rfl rfl ?_
        refine Ev.run [(.iload_n 1, 1), (.iload_n 2, 1)] (pc' := 27) (L' := [some (.ref k), some (.int (nI p)), some (.int v)]) (S' := [.int v, .int (nI p), .ref (k + 1)]) rfl (by decide +kernel) rfl ?_
        refine Ev.iast p (by decide +kernel) (hk.2.1) (rfl) (by omega) (by first | decide | omega) ?_
        dsimp only
        exact Ev.vret rfl (by decide +kernel) (⟨rfl, rfl⟩)
