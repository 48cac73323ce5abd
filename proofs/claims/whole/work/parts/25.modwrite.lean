/-! ===== the model: keep, write ===== -/
def addT (A : zA) (np : Nat) (pd : Nat → Nat) : zA := ((aN A, aM A + 1, aa A, ab A), (fz A, gz A, fun s => if s = aM A then np else tz A s), (ff A, gg A, fun s j => if s = aM A then pd j else tt A s j), aB A, rt A, mu A, la A, lb A)
def addP (A : zA) (np : Nat) (pd : Nat → Nat) (e : Nat) (b : Option Nat) : zA := ((aN A + 1, aM A, aa A, ab A), ((fun p => if p = aN A then e else fz A p), (fun p => if p = aN A then np - (e + 1) else gz A p), tz A), ((fun p j => if p = aN A then pd j else ff A p j), (fun p j => if p = aN A then pd (e + 1 + j) else gg A p j), tt A), (fun p => if p = aN A then b else aB A p), rt A, mu A, la A, lb A)
def KP (I I' : Nat → Nat → Int32) : Prop := (∀ c, c < 359 → I' c = I c) ∧ I' 379 = I 379 ∧ I' 380 = I 380 ∧ I' 359 0 = nI 0
theorem MV_addT {I I' : Nat → Nat → Int32} {A : zA} {np : Nat} {pd : Nat → Nat} (hV : MV (zVm I) A) (hW : WF A) (f0 : I' 359 2 = I 359 2) (f1 : I' 359 8 = nI (aM A + 1)) (f2 : ∀ c, 361 ≤ c → c ≤ 371 → c ≠ 366 → c ≠ 367 → I' c = I c) (f3 : I' 366 (aM A) = nI np) (f4 : ∀ s, s < aM A → I' 366 s = I 366 s) (f5 : ∀ j, j < np → I' 367 (12 * aM A + j) = nI (pd j)) (f6 : ∀ x, x < 12 * aM A → I' 367 x = I 367 x) : MV (zVm I') (addT A np pd) := by
  obtain ⟨⟨v1, v2, v3, v4⟩, v5, v6, v7, v8, v9, v10⟩ := hV
  refine ⟨⟨f0.trans v1, f1, ?_, ?_⟩, fun p hp => ?_, fun s hs => ?_, fun r hr => ?_, fun w hw => ?_, fun j hj => ?_, fun j hj => ?_⟩
  · exact (congrFun (f2 370 (by decide) (by decide) (by decide) (by decide)) 0).trans v3
  · exact (congrFun (f2 370 (by decide) (by decide) (by decide) (by decide)) 1).trans v4
  · obtain ⟨a1, a2, a3, a4, a5⟩ := v5 p hp
    refine ⟨(congrFun (f2 361 (by decide) (by decide) (by decide) (by decide)) p).trans a1, (congrFun (f2 362 (by decide) (by decide) (by decide) (by decide)) p).trans a2, (congrFun (f2 363 (by decide) (by decide) (by decide) (by decide)) p).trans a3, fun j hj => (congrFun (f2 364 (by decide) (by decide) (by decide) (by decide)) _).trans (a4 j hj), fun j hj => (congrFun (f2 365 (by decide) (by decide) (by decide) (by decide)) _).trans (a5 j hj)⟩
  · have hs' : s < aM A + 1 := hs
    show I' 366 s = nI (if s = aM A then np else tz A s) ∧ ∀ j, j < (if s = aM A then np else tz A s) → I' 367 (12 * s + j) = nI (if s = aM A then pd j else tt A s j)
    by_cases e : s = aM A
    · subst e
      simp only [if_true]
      exact ⟨f3, f5⟩
    · simp only [if_neg e]
      have hsM : s < aM A := by omega
      have hz := (hW.2.2.1 s hsM).1
      exact ⟨(f4 s hsM).trans (v6 s hsM).1, fun j hj => (f6 _ (by omega)).trans ((v6 s hsM).2 j hj)⟩
  · exact (congrFun (f2 368 (by decide) (by decide) (by decide) (by decide)) r).trans (v7 r hr)
  · exact (congrFun (f2 369 (by decide) (by decide) (by decide) (by decide)) w).trans (v8 w hw)
  · exact (congrFun (f2 371 (by decide) (by decide) (by decide) (by decide)) j).trans (v9 j hj)
  · exact (congrFun (f2 371 (by decide) (by decide) (by decide) (by decide)) _).trans (v10 j hj)
theorem MV_addP {I I' : Nat → Nat → Int32} {A : zA} {np e : Nat} {pd : Nat → Nat} {b : Option Nat} (hV : MV (zVm I) A) (hW : WF A) (f0 : I' 359 8 = I 359 8) (f1 : I' 359 2 = nI (aN A + 1)) (f2 : ∀ c, 366 ≤ c → c ≤ 371 → I' c = I c) (f3 : I' 361 (aN A) = ob b ∧ I' 362 (aN A) = nI e ∧ I' 363 (aN A) = nI (np - (e + 1))) (f4 : ∀ p, p < aN A → I' 361 p = I 361 p ∧ I' 362 p = I 362 p ∧ I' 363 p = I 363 p) (f5 : ∀ j, j < e → I' 364 (12 * aN A + j) = nI (pd j)) (f5' : ∀ j, j < np - (e + 1) → I' 365 (12 * aN A + j) = nI (pd (e + 1 + j))) (f6 : ∀ x, x < 12 * aN A → I' 364 x = I 364 x ∧ I' 365 x = I 365 x) : MV (zVm I') (addP A np pd e b) := by
  obtain ⟨⟨v1, v2, v3, v4⟩, v5, v6, v7, v8, v9, v10⟩ := hV
  refine ⟨⟨f1, f0.trans v2, ?_, ?_⟩, fun p hp => ?_, fun s hs => ?_, fun r hr => ?_, fun w hw => ?_, fun j hj => ?_, fun j hj => ?_⟩
  · exact (congrFun (f2 370 (by decide) (by decide)) 0).trans v3
  · exact (congrFun (f2 370 (by decide) (by decide)) 1).trans v4
  · have hp' : p < aN A + 1 := hp
    show I' 361 p = ob (if p = aN A then b else aB A p) ∧ I' 362 p = nI (if p = aN A then e else fz A p) ∧ I' 363 p = nI (if p = aN A then np - (e + 1) else gz A p) ∧ (∀ j, j < (if p = aN A then e else fz A p) → I' 364 (12 * p + j) = nI (if p = aN A then pd j else ff A p j)) ∧ ∀ j, j < (if p = aN A then np - (e + 1) else gz A p) → I' 365 (12 * p + j) = nI (if p = aN A then pd (e + 1 + j) else gg A p j)
    by_cases q : p = aN A
    · subst q
      simp only [if_true]
      exact ⟨f3.1, f3.2.1, f3.2.2, f5, f5'⟩
    · simp only [if_neg q]
      have hpN : p < aN A := by omega
      have hz := (hW.2.1 p hpN).1
      obtain ⟨a1, a2, a3, a4, a5⟩ := v5 p hpN
      obtain ⟨c1, c2, c3⟩ := f4 p hpN
      exact ⟨c1.trans a1, c2.trans a2, c3.trans a3, fun j hj => ((f6 _ (by omega)).1).trans (a4 j hj), fun j hj => ((f6 _ (by omega)).2).trans (a5 j hj)⟩
  · exact ⟨(congrFun (f2 366 (by decide) (by decide)) s).trans (v6 s hs).1, fun j hj => (congrFun (f2 367 (by decide) (by decide)) _).trans ((v6 s hs).2 j hj)⟩
  · exact (congrFun (f2 368 (by decide) (by decide)) r).trans (v7 r hr)
  · exact (congrFun (f2 369 (by decide) (by decide)) w).trans (v8 w hw)
  · exact (congrFun (f2 371 (by decide) (by decide)) j).trans (v9 j hj)
  · exact (congrFun (f2 371 (by decide) (by decide)) _).trans (v10 j hj)
theorem fS_none {np : Nat} {pd : Nat → Nat} (h : fS np pd = none) : 1 ≤ np ∧ np ≤ 12 := by
  rw [fS] at h
  split at h
  · cases h
  · next q =>
    have := et_b np pd 97 12 0 (Nat.zero_le np)
    have e : E1 np pd = et np pd 97 12 0 := rfl
    omega
theorem fP_none {np : Nat} {pd : Nat → Nat} (h : fP np pd = none) : 1 ≤ E1 np pd ∧ E1 np pd ≤ 12 ∧ E1 np pd + 1 < np ∧ np ≤ E1 np pd + 1 + 12 := by
  rw [fP] at h
  split at h
  · cases h
  · next q =>
    split at h
    · cases h
    · next q2 =>
      have a1 := et_b np pd 97 12 0 (Nat.zero_le np)
      have e : E1 np pd = et np pd 97 12 0 := rfl
      have q3 : ¬ E1 np pd = 0 ∧ E1 np pd < np := by
        refine ⟨fun z => q (Or.inl z), ?_⟩
        apply Classical.byContradiction
        intro z
        exact q (Or.inr (fun y => z y.1))
      have a2 := et_b np pd 65 12 (E1 np pd + 1) (by omega)
      have e2 : E2 np pd = et np pd 65 12 (E1 np pd + 1) := rfl
      omega

set_option maxRecDepth 100000 in
set_option maxHeartbeats 4000000 in
theorem c_X7_write_f {sc : Nat × (Nat → Int32)} {d : Nat} (I : Nat → Nat → Int32) (J : Nat → Nat → Int64) (A : zA) (hV : MV (zVm I) A) (hW : WF A) (hM : aM A = 10) : EvM sc (d + 3) 0 0 mX7_write [.ref 359] (zz_SH, I, J) (zz_is (.int (-4)) (zz_SH, I, J)) := by
  have w1 := hW.1.1
  have w2 := hW.1.2.1
  refine EvM.of (by decide) rfl (Nat.le_of_ble_eq_true rfl) ?_
  show Ev _ _ _ _ _ 0 [some (.ref 359), none] [] (zz_SH, I, J) _
  refine Ev.run [(.aload_n 0, 1), (.getfield 83, 3)] (pc' := 4) (L' := [some (.ref 359), none]) (S' := [.int (I 359 8)]) rfl (by decide +kernel) rfl ?_
  rw [show I 359 8 = nI (aM A) from hV.1.2.1]
  refine Ev.run [(.bipush 10, 2)] (pc' := 6) (L' := [some (.ref 359), none]) (S' := [.int (nI 10), .int (nI (aM A))]) rfl (by decide +kernel) rfl ?_
  refine Ev.icmp_ne (off := 6) (tgt := 12) (by decide +kernel) (by decide) (fun h6 => ?_) (fun h6 => ?_)
  · have h6 : ¬ (aM A) = 10 := zz_bE_f (by omega) (by omega) h6
    exfalso; omega
  · have h6 : (aM A) = 10 := zz_bE_t (by omega) (by omega) h6
    refine Ev.run [(.bipush (-4), 2)] (pc' := 11) (L' := [some (.ref 359), none]) (S' := [.int ((-4))]) rfl (by decide +kernel) rfl ?_
    exact Ev.iret rfl (by decide +kernel) (⟨rfl, rfl⟩)

set_option maxRecDepth 100000 in
set_option maxHeartbeats 4000000 in
theorem c_X7_write_n {sc : Nat × (Nat → Int32)} {d : Nat} (I : Nat → Nat → Int32) (J : Nat → Nat → Int64) (A : zA) (hV : MV (zVm I) A) (hW : WF A) (np : Nat) (pd : Nat → Nat) (hn : I 359 0 = nI np) (hpd : ∀ j, j < np → I 360 j = nI (pd j)) (hnp : np ≤ 30) (hpr : ∀ j, j < np → 33 ≤ pd j ∧ pd j ≤ 126) (hM : aM A < 10) (x : Nat) (hf : fS np pd = some x) (hx : x < 1000) : EvM sc (d + 3) 0 0 mX7_write [.ref 359] (zz_SH, I, J) (fun r σ => r = some (.int (-5)) ∧ ∃ I' : Nat → Nat → Int32, zSc I I' ∧ σ = (zz_SH, I', J)) := by
  have w1 := hW.1.1
  have w2 := hW.1.2.1
  refine EvM.of (by decide) rfl (Nat.le_of_ble_eq_true rfl) ?_
  show Ev _ _ _ _ _ 0 [some (.ref 359), none] [] (zz_SH, I, J) _
  refine Ev.run [(.aload_n 0, 1), (.getfield 83, 3)] (pc' := 4) (L' := [some (.ref 359), none]) (S' := [.int (I 359 8)]) rfl (by decide +kernel) rfl ?_
  rw [show I 359 8 = nI (aM A) from hV.1.2.1]
  refine Ev.run [(.bipush 10, 2)] (pc' := 6) (L' := [some (.ref 359), none]) (S' := [.int (nI 10), .int (nI (aM A))]) rfl (by decide +kernel) rfl ?_
  refine Ev.icmp_ne (off := 6) (tgt := 12) (by decide +kernel) (by decide) (fun h6 => ?_) (fun h6 => ?_)
  · have h6 : ¬ (aM A) = 10 := zz_bE_f (by omega) (by omega) h6
    refine Ev.run [(.aload_n 0, 1), (.iconst 0, 1)] (pc' := 14) (L' := [some (.ref 359), none]) (S' := [.int (nI 0), .ref 359]) rfl (by decide +kernel) rfl ?_
    refine Ev.callV0 mX7_faultOf [.int (nI 0)] [] _ rfl lk_RX7_96 (by decide +kernel) (rfl) rfl rfl rfl (Nat.le_of_ble_eq_true rfl) (c_X7_faultOf_0 I J np pd hn hpd hnp hpr) ?_
    rintro _ _ ⟨rfl, I1, hs1, rfl⟩
    rw [hf]
    show Ev _ _ _ _ _ 17 [some (.ref 359), none] [.int (nI x)] (zz_SH, I1, J) _
    refine Ev.if_lt (off := 6) (tgt := 23) (by decide +kernel) (by decide) (fun h17 => ?_) (fun h17 => ?_)
    · have h17 : x < 0 := zz_bL_t (by omega) (by omega) h17
      exfalso; omega
    · have h17 : x ≥ 0 := zz_bL_f (by omega) (by omega) h17
      refine Ev.run [(.bipush (-5), 2)] (pc' := 22) (L' := [some (.ref 359), none]) (S' := [.int ((-5))]) rfl (by decide +kernel) rfl ?_
      exact Ev.iret rfl (by decide +kernel) (⟨rfl, I1, hs1.sc, rfl⟩)
  · have h6 : (aM A) = 10 := zz_bE_t (by omega) (by omega) h6
    exfalso; omega

set_option maxRecDepth 100000 in
set_option maxHeartbeats 4000000 in
theorem l_X7_write {sc : Nat × (Nat → Int32)} {d : Nat} (I : Nat → Nat → Int32) (J : Nat → Nat → Int64) (A : zA) (hV : MV (zVm I) A) (hW : WF A) (np : Nat) (pd : Nat → Nat) (hn : I 359 0 = nI np) (hpd : ∀ j, j < np → I 360 j = nI (pd j)) (hnp : np ≤ 30) (hpr : ∀ j, j < np → 33 ≤ pd j ∧ pd j ≤ 126) (hM : aM A < 10) (hf : fS np pd = none) (I1 : Nat → Nat → Int32) (hs1 : zS7 I I1) : ∀ (μ : Nat) (k : Nat) (I2 : Nat → Nat → Int32), np - k < μ → (k ≤ np) → ((∀ c, c ≠ 366 → c ≠ 367 → I2 c = I1 c) ∧ I2 366 = upd (I1 366) (aM A) (nI np)) → (∀ j, j < k → I2 367 (12 * aM A + j) = nI (pd j)) → (∀ x, x < 12 * aM A → I2 367 x = I 367 x) →  Ev sc (d + 3) 0 0 mX7_write 38 [some (.ref 359), some (.int (nI k))] [] (zz_SH, I2, J) (fun r σ => r = some (.int (nI (aM A))) ∧ ∃ I' : Nat → Nat → Int32, KP I I' ∧ MV (zVm I') (addT A np pd) ∧ σ = (zz_SH, I', J)) := by
  intro μ
  induction μ with
  | zero => intro k I2 hμ; exact absurd hμ (Nat.not_lt_zero _)
  | succ μ ih =>
    intro k I2 hμ hk hz ht hu
    have w1 := hW.1.1
    have w2 := hW.1.2.1
    have g1 := fS_none hf
    refine Ev.run [(.iload_n 1, 1), (.aload_n 0, 1), (.getfield 86, 3)] (pc' := 43) (L' := [some (.ref 359), some (.int (nI k))]) (S' := [.int (I2 359 0), .int (nI k)]) rfl (by decide +kernel) rfl ?_
    rw [show I2 359 0 = nI (np) from by rw [hz.1 359 (by decide) (by decide), hs1.2 0 (by decide)]; exact hn]
    refine Ev.icmp_ge (off := 29) (tgt := 72) (by decide +kernel) (by decide) (fun h43 => ?_) (fun h43 => ?_)
    · have h43 : k ≥ np := zz_bG_t (by omega) (by omega) h43
      have hkn : np = k := by omega
      refine Ev.run [(.aload_n 0, 1), (.iconst 0, 1)] (pc' := 74) (L' := [some (.ref 359), some (.int (nI k))]) (S' := [.int (nI 0), .ref 359]) rfl (by decide +kernel) rfl ?_
      refine Ev.putf (idx := 86) rfl rfl rfl (by decide +kernel) (rfl) rfl ?_
      dsimp only
      refine Ev.run [(.aload_n 0, 1), (.dup, 1), (.getfield 83, 3)] (pc' := 82) (L' := [some (.ref 359), some (.int (nI k))]) (S' := [.int ((zz_up I2 359 0 (nI 0)) 359 8), .ref 359]) rfl (by decide +kernel) rfl ?_
      rw [show (zz_up I2 359 0 (nI 0)) 359 8 = nI (aM A) from by rw [zz_up_eq, zz_upn (by decide), hz.1 359 (by decide) (by decide), hs1.2 8 (by decide)]; exact hV.1.2.1]
      refine Ev.run [(.iconst 1, 1), (.iadd, 1)] (pc' := 84) (L' := [some (.ref 359), some (.int (nI k))]) (S' := [.int (nI (aM A) + nI 1), .ref 359]) rfl (by decide +kernel) rfl ?_
      rw [nI_add (aM A) 1]
      refine Ev.putf (idx := 83) rfl rfl rfl (by decide +kernel) (rfl) rfl ?_
      dsimp only
      refine Ev.run [(.aload_n 0, 1), (.getfield 83, 3)] (pc' := 91) (L' := [some (.ref 359), some (.int (nI k))]) (S' := [.int ((zz_up (zz_up I2 359 0 (nI 0)) 359 8 (nI ((aM A) + 1))) 359 8)]) rfl (by decide +kernel) rfl ?_
      rw [show (zz_up (zz_up I2 359 0 (nI 0)) 359 8 (nI ((aM A) + 1))) 359 8 = nI (aM A + 1) from by rw [zz_up_eq, zz_ups]]
      refine Ev.run [(.iconst 1, 1), (.isub, 1)] (pc' := 93) (L' := [some (.ref 359), some (.int (nI k))]) (S' := [.int (nI (aM A + 1) - nI 1)]) rfl (by decide +kernel) rfl ?_
      rw [show nI (aM A + 1) - nI 1 = nI (aM A) from zz_sub (by omega)]
      exact Ev.iret rfl (by decide +kernel) (⟨rfl, _, ⟨fun c hc => by rw [zz_up_ne (by omega), zz_up_ne (by omega), hz.1 c (by omega) (by omega), hs1.1 c (by omega)], by rw [zz_up_ne (by decide), zz_up_ne (by decide), hz.1 379 (by decide) (by decide), hs1.1 379 (by decide)], by rw [zz_up_ne (by decide), zz_up_ne (by decide), hz.1 380 (by decide) (by decide), hs1.1 380 (by decide)], by rw [zz_up_eq, zz_upn (by decide), zz_up_eq, zz_ups]⟩, MV_addT hV hW (by rw [zz_up_eq, zz_upn (by decide), zz_up_eq, zz_upn (by decide), hz.1 359 (by decide) (by decide), hs1.2 2 (by decide)]) (by rw [zz_up_eq, zz_ups]) (fun c h1 h2 h3 h4 => by rw [zz_up_ne (by omega), zz_up_ne (by omega), hz.1 c h3 h4, hs1.1 c (by omega)]) (by rw [zz_up_ne (by decide), zz_up_ne (by decide), hz.2, zz_ups]) (fun s hs => by rw [zz_up_ne (by decide), zz_up_ne (by decide), hz.2, zz_upn (by omega), hs1.1 366 (by decide)]) (fun j hj => by rw [zz_up_ne (by decide), zz_up_ne (by decide)]; exact ht j (by omega)) (fun x hx => by rw [zz_up_ne (by decide), zz_up_ne (by decide)]; exact hu x hx), rfl⟩)
    · have h43 : k < np := zz_bG_f (by omega) (by omega) h43
      refine Ev.run [(.aload_n 0, 1), (.getfield 31, 3), (.bipush 12, 2), (.aload_n 0, 1), (.getfield 83, 3)] (pc' := 56) (L' := [some (.ref 359), some (.int (nI k))]) (S' := [.int (I2 359 8), .int (nI 12), .ref 367]) rfl (by decide +kernel) rfl ?_
      rw [show I2 359 8 = nI (aM A) from by rw [hz.1 359 (by decide) (by decide), hs1.2 8 (by decide)]; exact hV.1.2.1]
      refine Ev.run [(.imul, 1)] (pc' := 57) (L' := [some (.ref 359), some (.int (nI k))]) (S' := [.int (nI 12 * nI (aM A)), .ref 367]) rfl (by decide +kernel) rfl ?_
      rw [pk_mul 12 (aM A)]
      refine Ev.run [(.iload_n 1, 1), (.iadd, 1)] (pc' := 59) (L' := [some (.ref 359), some (.int (nI k))]) (S' := [.int (nI (12 * (aM A)) + nI k), .ref 367]) rfl (by decide +kernel) rfl ?_
      rw [nI_add (12 * (aM A)) k]
      refine Ev.run [(.aload_n 0, 1), (.getfield 7, 3), (.iload_n 1, 1)] (pc' := 64) (L' := [some (.ref 359), some (.int (nI k))]) (S' := [.int (nI k), .ref 360, .int (nI ((12 * (aM A)) + k)), .ref 367]) rfl (by decide +kernel) rfl ?_
      refine Ev.iald k (by decide +kernel) (rfl) (rfl) (by omega) (by first | decide | omega) ?_
      dsimp only
      rw [show I2 360 k = nI (pd k) from by rw [hz.1 360 (by decide) (by decide), hs1.1 360 (by decide)]; exact hpd k (by omega)]
      refine Ev.iast ((12 * (aM A)) + k) (by decide +kernel) (rfl) (rfl) (by omega) (by first | decide | omega) ?_
      dsimp only
      refine Ev.run [(.iinc 1 1, 3)] (pc' := 69) (L' := [some (.ref 359), some (.int (nI k + 1))]) (S' := []) rfl (by decide +kernel) rfl ?_
      rw [nI_1 k]
      refine Ev.goto (off := (-31)) (tgt := 38) (by decide +kernel) (by decide) ?_
      refine ih (k + 1) _ (by omega) (by omega) ⟨fun c h1 h2 => by rw [zz_up_ne h2]; exact hz.1 c h1 h2, by rw [zz_up_ne (by decide)]; exact hz.2⟩ (fun j hj => ?_) (fun x hx => ?_)
      · by_cases e : j = k
        · subst e; rw [zz_up_eq, zz_ups]
        · rw [zz_up_eq, zz_upn (by omega)]; exact ht j (by omega)
      · rw [zz_up_eq, zz_upn (by omega)]; exact hu x hx

set_option maxRecDepth 100000 in
set_option maxHeartbeats 4000000 in
theorem c_X7_write_k {sc : Nat × (Nat → Int32)} {d : Nat} (I : Nat → Nat → Int32) (J : Nat → Nat → Int64) (A : zA) (hV : MV (zVm I) A) (hW : WF A) (np : Nat) (pd : Nat → Nat) (hn : I 359 0 = nI np) (hpd : ∀ j, j < np → I 360 j = nI (pd j)) (hnp : np ≤ 30) (hpr : ∀ j, j < np → 33 ≤ pd j ∧ pd j ≤ 126) (hM : aM A < 10) (hf : fS np pd = none) : EvM sc (d + 3) 0 0 mX7_write [.ref 359] (zz_SH, I, J) (fun r σ => r = some (.int (nI (aM A))) ∧ ∃ I' : Nat → Nat → Int32, KP I I' ∧ MV (zVm I') (addT A np pd) ∧ σ = (zz_SH, I', J)) := by
  have w1 := hW.1.1
  have w2 := hW.1.2.1
  refine EvM.of (by decide) rfl (Nat.le_of_ble_eq_true rfl) ?_
  show Ev _ _ _ _ _ 0 [some (.ref 359), none] [] (zz_SH, I, J) _
  refine Ev.run [(.aload_n 0, 1), (.getfield 83, 3)] (pc' := 4) (L' := [some (.ref 359), none]) (S' := [.int (I 359 8)]) rfl (by decide +kernel) rfl ?_
  rw [show I 359 8 = nI (aM A) from hV.1.2.1]
  refine Ev.run [(.bipush 10, 2)] (pc' := 6) (L' := [some (.ref 359), none]) (S' := [.int (nI 10), .int (nI (aM A))]) rfl (by decide +kernel) rfl ?_
  refine Ev.icmp_ne (off := 6) (tgt := 12) (by decide +kernel) (by decide) (fun h6 => ?_) (fun h6 => ?_)
  · have h6 : ¬ (aM A) = 10 := zz_bE_f (by omega) (by omega) h6
    refine Ev.run [(.aload_n 0, 1), (.iconst 0, 1)] (pc' := 14) (L' := [some (.ref 359), none]) (S' := [.int (nI 0), .ref 359]) rfl (by decide +kernel) rfl ?_
    refine Ev.callV0 mX7_faultOf [.int (nI 0)] [] _ rfl lk_RX7_96 (by decide +kernel) (rfl) rfl rfl rfl (Nat.le_of_ble_eq_true rfl) (c_X7_faultOf_0 I J np pd hn hpd hnp hpr) ?_
    rintro _ _ ⟨rfl, I1, hs1, rfl⟩
    rw [hf]
    show Ev _ _ _ _ _ 17 [some (.ref 359), none] [.int ((-6))] (zz_SH, I1, J) _
    refine Ev.if_lt (off := 6) (tgt := 23) (by decide +kernel) (by decide) (fun h17 => ?_) (fun h17 => absurd h17 (by decide))
    refine Ev.run [(.aload_n 0, 1), (.getfield 28, 3), (.aload_n 0, 1), (.getfield 83, 3)] (pc' := 31) (L' := [some (.ref 359), none]) (S' := [.int (I1 359 8), .ref 366]) rfl (by decide +kernel) rfl ?_
    rw [show I1 359 8 = nI (aM A) from by rw [hs1.2 8 (by decide)]; exact hV.1.2.1]
    refine Ev.run [(.aload_n 0, 1), (.getfield 86, 3)] (pc' := 35) (L' := [some (.ref 359), none]) (S' := [.int (I1 359 0), .int (nI (aM A)), .ref 366]) rfl (by decide +kernel) rfl ?_
    rw [show I1 359 0 = nI np from by rw [hs1.2 0 (by decide)]; exact hn]
    refine Ev.iast (aM A) (by decide +kernel) (rfl) (rfl) (by omega) (by first | decide | omega) ?_
    dsimp only
    refine Ev.run [(.iconst 0, 1), (.istore_n 1, 1)] (pc' := 38) (L' := [some (.ref 359), some (.int (nI 0))]) (S' := []) rfl (by decide +kernel) rfl ?_
    exact l_X7_write I J A hV hW np pd hn hpd hnp hpr hM hf I1 hs1 (np + 1) 0 _ (by omega) (by omega) ⟨fun c h1 h2 => zz_up_ne h1, zz_up_eq _ _ _ _⟩ (fun j hj => absurd hj (Nat.not_lt_zero j)) (fun x hx => by rw [zz_up_ne (by decide), hs1.1 367 (by decide)])
  · have h6 : (aM A) = 10 := zz_bE_t (by omega) (by omega) h6
    exfalso; omega
