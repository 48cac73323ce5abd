/-! ===== the class: write, keep ===== -/
theorem zz_rf_sr {I : Nat → Nat → Int32} {k n : Nat} {f : Nat → Nat} {G F : Nat → Int32} (h : ∀ j, j < n → G j = nI (f j)) : zz_rf (zz_sr I k (zz_mix G F n) n) k n f := ⟨zz_sr_s _ _ _ _, fun j hj => by rw [zz_sr_f, zz_mix_in hj]; exact h j hj⟩
def KC (I I' : Nat → Nat → Int32) : Prop := (∀ c, 104 ≤ c → c ≠ 309 → I' c = I c) ∧ I' 1 1 = nI 0
theorem WF_addT {A : zA} {np : Nat} {pd : Nat → Nat} (hW : WF A) (hm : aM A < 10) (h1 : 1 ≤ np) (h2 : np ≤ 12) (hpr : ∀ j, j < np → 33 ≤ pd j ∧ pd j ≤ 126) : WF (addT A np pd) := by
  obtain ⟨w1, w2, w3, w4⟩ := hW
  refine ⟨⟨w1.1, hm, w1.2.2⟩, w2, fun s hs => ?_, w4⟩
  by_cases e : s = aM A
  · have e1 : tz (addT A np pd) s = np := if_pos e
    have e2 : tt (addT A np pd) s = pd := funext fun j => if_pos e
    rw [e1, e2]; exact ⟨⟨h1, h2⟩, hpr⟩
  · have e1 : tz (addT A np pd) s = tz A s := if_neg e
    have e2 : tt (addT A np pd) s = tt A s := funext fun j => if_neg e
    have hs' : s < aM A + 1 := hs
    rw [e1, e2]; exact w3 s (by omega)
theorem WF_addP {A : zA} {np e : Nat} {pd : Nat → Nat} {b : Option Nat} (hW : WF A) (hm : aN A < 12) (h1 : 1 ≤ e ∧ e ≤ 12 ∧ e + 1 < np ∧ np ≤ e + 1 + 12) (hpr : ∀ j, j < np → 33 ≤ pd j ∧ pd j ≤ 126) (hb : ∀ q, b = some q → q < aN A) : WF (addP A np pd e b) := by
  obtain ⟨w1, w2, w3⟩ := hW
  refine ⟨⟨hm, w1.2⟩, fun s hs => ?_, w3⟩
  by_cases h : s = aN A
  · have e1 : fz (addP A np pd e b) s = e := if_pos h
    have e2 : ff (addP A np pd e b) s = pd := funext fun j => if_pos h
    have e3 : gz (addP A np pd e b) s = np - (e + 1) := if_pos h
    have e4 : gg (addP A np pd e b) s = fun j => pd (e + 1 + j) := funext fun j => if_pos h
    have e5 : aB (addP A np pd e b) s = b := if_pos h
    rw [e1, e2, e3, e4, e5]
    exact ⟨⟨h1.1, h1.2.1, by omega, by omega⟩, fun j hj => hpr j (by omega), fun j hj => hpr (e + 1 + j) (by omega), fun q hq => by have := hb q hq; omega⟩
  · have e1 : fz (addP A np pd e b) s = fz A s := if_neg h
    have e2 : ff (addP A np pd e b) s = ff A s := funext fun j => if_neg h
    have e3 : gz (addP A np pd e b) s = gz A s := if_neg h
    have e4 : gg (addP A np pd e b) s = gg A s := funext fun j => if_neg h
    have e5 : aB (addP A np pd e b) s = aB A s := if_neg h
    have hs' : s < aN A + 1 := hs
    rw [e1, e2, e3, e4, e5]; exact w2 s (by omega)
theorem CM_addT {I I2 : Nat → Nat → Int32} {A : zA} {np : Nat} {pd : Nat → Nat} (hM : CM 3 I A) (hW : WF A) (hm : aM A < 10) (f1 : I2 3 10 = I 3 10) (f2 : I2 3 11 = nI (aM A + 1)) (f3 : zz_rf I2 (84 + 2 * aM A) np pd) (f4 : ∀ c, 4 ≤ c → c ≤ 103 → (c < 9 ∨ 29 < c) → c ≠ 84 + 2 * aM A → c ≠ 84 + 2 * aM A + 1 → I2 c = I c) : CM 3 I2 (addT A np pd) := by
  obtain ⟨⟨v1, v2⟩, v3, v4, v5, v6, v7, v8⟩ := hM
  have w1 := hW.1.1
  refine ⟨⟨f1.trans v1, f2⟩, fun p hp => ?_, fun s hs => ?_, fun r hr => ?_, fun w hw => ?_, ?_, ?_⟩
  · obtain ⟨a1, a2, a3⟩ := v3 p hp
    have hp' : p < aN A := hp
    exact ⟨by rw [f4 _ (by omega) (by omega) (by omega) (by omega) (by omega)]; exact a1, a2.fr (f4 _ (by omega) (by omega) (by omega) (by omega) (by omega)) (f4 _ (by omega) (by omega) (by omega) (by omega) (by omega)), a3.fr (f4 _ (by omega) (by omega) (by omega) (by omega) (by omega)) (f4 _ (by omega) (by omega) (by omega) (by omega) (by omega))⟩
  · by_cases e : s = aM A
    · have e1 : tz (addT A np pd) s = np := if_pos e
      have e2 : tt (addT A np pd) s = pd := funext fun j => if_pos e
      rw [e1, e2, e]; exact f3
    · have e1 : tz (addT A np pd) s = tz A s := if_neg e
      have e2 : tt (addT A np pd) s = tt A s := funext fun j => if_neg e
      have hs' : s < aM A + 1 := hs
      rw [e1, e2]; exact (v4 s (by omega)).fr (f4 _ (by omega) (by omega) (by omega) (by omega) (by omega)) (f4 _ (by omega) (by omega) (by omega) (by omega) (by omega))
  · rw [f4 _ (by omega) (by omega) (by omega) (by omega) (by omega)]; exact v5 r hr
  · rw [f4 _ (by omega) (by omega) (by omega) (by omega) (by omega)]; exact v6 w hw
  · exact v7.fr (f4 _ (by omega) (by omega) (by omega) (by omega) (by omega)) (f4 _ (by omega) (by omega) (by omega) (by omega) (by omega))
  · exact v8.fr (f4 _ (by omega) (by omega) (by omega) (by omega) (by omega)) (f4 _ (by omega) (by omega) (by omega) (by omega) (by omega))
theorem CM_addP {I I2 : Nat → Nat → Int32} {A : zA} {np e : Nat} {pd : Nat → Nat} {b : Option Nat} (hM : CM 3 I A) (hW : WF A) (hm : aN A < 12) (f1 : I2 3 11 = I 3 11) (f2 : I2 3 10 = nI (aN A + 1)) (f3 : zz_rf I2 (36 + 4 * aN A) e pd) (f5 : zz_rf I2 (38 + 4 * aN A) (np - (e + 1)) (fun j => pd (e + 1 + j))) (f6 : I2 6 (aN A) = ob b) (f7 : ∀ p, p < aN A → I2 6 p = I 6 p) (f4 : ∀ c, 4 ≤ c → c ≤ 103 → (c < 9 ∨ 29 < c) → c ≠ 6 → (c < 36 + 4 * aN A ∨ 36 + 4 * aN A + 3 < c) → I2 c = I c) : CM 3 I2 (addP A np pd e b) := by
  obtain ⟨⟨v1, v2⟩, v3, v4, v5, v6, v7, v8⟩ := hM
  have w1 := hW.1.2.1
  refine ⟨⟨f2, f1.trans v2⟩, fun p hp => ?_, fun s hs => ?_, fun r hr => ?_, fun w hw => ?_, ?_, ?_⟩
  · by_cases h : p = aN A
    · have e1 : fz (addP A np pd e b) p = e := if_pos h
      have e2 : ff (addP A np pd e b) p = pd := funext fun j => if_pos h
      have e3 : gz (addP A np pd e b) p = np - (e + 1) := if_pos h
      have e4 : gg (addP A np pd e b) p = fun j => pd (e + 1 + j) := funext fun j => if_pos h
      have e5 : aB (addP A np pd e b) p = b := if_pos h
      rw [e1, e2, e3, e4, e5, h]; exact ⟨f6, f3, f5⟩
    · have e1 : fz (addP A np pd e b) p = fz A p := if_neg h
      have e2 : ff (addP A np pd e b) p = ff A p := funext fun j => if_neg h
      have e3 : gz (addP A np pd e b) p = gz A p := if_neg h
      have e4 : gg (addP A np pd e b) p = gg A p := funext fun j => if_neg h
      have e5 : aB (addP A np pd e b) p = aB A p := if_neg h
      have hs' : p < aN A + 1 := hp
      have hp2 : p < aN A := by omega
      obtain ⟨a1, a2, a3⟩ := v3 p hp2
      rw [e1, e2, e3, e4, e5]
      exact ⟨(f7 p hp2).trans a1, a2.fr (f4 _ (by omega) (by omega) (by omega) (by omega) (by omega)) (f4 _ (by omega) (by omega) (by omega) (by omega) (by omega)), a3.fr (f4 _ (by omega) (by omega) (by omega) (by omega) (by omega)) (f4 _ (by omega) (by omega) (by omega) (by omega) (by omega))⟩
  · have hs' : s < aM A := hs
    exact (v4 s hs).fr (f4 _ (by omega) (by omega) (by omega) (by omega) (by omega)) (f4 _ (by omega) (by omega) (by omega) (by omega) (by omega))
  · rw [f4 _ (by omega) (by omega) (by omega) (by omega) (by omega)]; exact v5 r hr
  · rw [f4 _ (by omega) (by omega) (by omega) (by omega) (by omega)]; exact v6 w hw
  · exact v7.fr (f4 _ (by omega) (by omega) (by omega) (by omega) (by omega)) (f4 _ (by omega) (by omega) (by omega) (by omega) (by omega))
  · exact v8.fr (f4 _ (by omega) (by omega) (by omega) (by omega) (by omega)) (f4 _ (by omega) (by omega) (by omega) (by omega) (by omega))
theorem lkP_addT {A : zA} {np : Nat} {pd : Nat → Nat} {s p : Nat} (h : s ≠ aM A) : lkP (addT A np pd) s p = lkP A s p := by
  have e1 : tz (addT A np pd) s = tz A s := if_neg h
  have e2 : tt (addT A np pd) s = tt A s := funext fun j => if_neg h
  rw [lkP, e1, e2]; rfl
theorem lkT_addT {A : zA} {np : Nat} {pd : Nat → Nat} {s t : Nat} (h : s ≠ aM A) (h2 : t ≠ aM A) : lkT (addT A np pd) s t = lkT A s t := by
  have e1 : tz (addT A np pd) s = tz A s := if_neg h
  have e2 : tt (addT A np pd) s = tt A s := funext fun j => if_neg h
  have e3 : tz (addT A np pd) t = tz A t := if_neg h2
  have e4 : tt (addT A np pd) t = tt A t := funext fun j => if_neg h2
  rw [lkT, e1, e2, e3, e4, lkT]
theorem lkP_addP {A : zA} {np e : Nat} {pd : Nat → Nat} {b : Option Nat} {s p : Nat} (h : p ≠ aN A) : lkP (addP A np pd e b) s p = lkP A s p := by
  have e1 : fz (addP A np pd e b) p = fz A p := if_neg h
  have e2 : ff (addP A np pd e b) p = ff A p := funext fun j => if_neg h
  rw [lkP, e1, e2]; rfl
/-- by its own parts -/
theorem mtc_cg {A A' : zA} {s p : Nat} (h1 : lkP A' s p = lkP A s p) (h2 : aB A' p = aB A p) (h3 : ∀ s' q, s = s' + 1 → aB A p = some q → lkP A' s' q = lkP A s' q) : mtc A' s p = mtc A s p := by
  unfold mtc
  rw [h1, h2]
  cases hb : aB A p with
  | none => rfl
  | some q =>
    cases s with
    | zero => rfl
    | succ s => simp only [h3 s q rfl hb]
theorem CT_addT {I I4 : Nat → Nat → Int32} {A : zA} {np : Nat} {pd : Nat → Nat} (hT : CT 3 I A) (hW : WF A) (hm : aM A < 10) (m1 : ∀ p, p < aN A → I4 (9 + aM A) p = nI (mtc (addT A np pd) (aM A) p)) (m2 : ∀ s, s < 10 → s ≠ aM A → I4 (9 + s) = I (9 + s)) (m3 : ∀ u, u < aM A + 1 → I4 (20 + aM A) u = nI (lkT (addT A np pd) (aM A) u) ∧ I4 (20 + u) (aM A) = nI (lkT (addT A np pd) (aM A) u)) (m4 : ∀ u v, u < 10 → u ≠ aM A → v ≠ aM A → I4 (20 + u) v = I (20 + u) v) : CT 3 I4 (addT A np pd) := by
  intro s hs
  have hs' : s < aM A + 1 := hs
  refine ⟨fun p hp => ?_, fun t ht => ?_⟩
  · by_cases e : s = aM A
    · rw [e]; exact m1 p hp
    · rw [mtc_cg (lkP_addT e) rfl (fun s' q h1 _ => lkP_addT (by omega))]
      show I4 (9 + s) p = _
      rw [m2 s (by omega) e]; exact (hT s (by omega)).1 p hp
  · have ht' : t < aM A + 1 := ht
    by_cases e : s = aM A
    · rw [e]; exact (m3 t ht').1
    · by_cases e2 : t = aM A
      · rw [e2, lkT_sym]; exact (m3 s hs').2
      · rw [lkT_addT e e2]
        show I4 (20 + s) t = _
        rw [m4 s t (by omega) e e2]; exact (hT s (by omega)).2 t (by omega)
theorem CT_addP {I I4 : Nat → Nat → Int32} {A : zA} {np e : Nat} {pd : Nat → Nat} {b : Option Nat} (hT : CT 3 I A) (hW : WF A) (m1 : ∀ s, s < aM A → I4 (9 + s) = upd (I (9 + s)) (aN A) (nI (mtc (addP A np pd e b) s (aN A)))) (m2 : ∀ s, s < 10 → I4 (20 + s) = I (20 + s)) : CT 3 I4 (addP A np pd e b) := by
  intro s hs
  have hs' : s < aM A := hs
  have w2 := hW.1.2.1
  refine ⟨fun p hp => ?_, fun t ht => ?_⟩
  · show I4 (9 + s) p = _
    rw [m1 s hs']
    by_cases h : p = aN A
    · rw [h, zz_ups]
    · have hp' : p < aN A + 1 := hp
      have hp2 : p < aN A := by omega
      rw [zz_upn h, mtc_cg (lkP_addP h) (if_neg h) (fun s' q _ hq => lkP_addP (by have := (hW.2.1 p hp2).2.2.2 q hq; omega))]
      exact (hT s hs').1 p hp2
  · show I4 (20 + s) t = _
    rw [m2 s (by omega)]; exact (hT s hs').2 t ht

set_option maxRecDepth 100000 in
set_option maxHeartbeats 4000000 in
theorem c_X6_write_f {sc : Nat × (Nat → Int32)} {d : Nat} (I : Nat → Nat → Int32) (J : Nat → Nat → Int64) (A : zA) (hC : CR 3 I A) (hW : WF A) (hm : aM A = 10) : EvM sc (d + 6) 0 0 mX6_write [.ref 0] (zz_SH, I, J) (zz_is (.int (-4)) (zz_SH, I, J)) := by
  have w1 := hW.1.1
  have w2 := hW.1.2.1
  refine EvM.of (by decide) rfl (Nat.le_of_ble_eq_true rfl) ?_
  show Ev _ _ _ _ _ 0 [some (.ref 0), none] [] (zz_SH, I, J) _
  refine Ev.run [(.aload_n 0, 1), (.getfield 21, 3), (.getfield 98, 3)] (pc' := 7) (L' := [some (.ref 0), none]) (S' := [.int (I 3 11)]) rfl (by decide +kernel) rfl ?_
  rw [show I 3 11 = nI (aM A) from hC.1.1.2]
  refine Ev.run [(.bipush 10, 2)] (pc' := 9) (L' := [some (.ref 0), none]) (S' := [.int (nI 10), .int (nI (aM A))]) rfl (by decide +kernel) rfl ?_
  refine Ev.icmp_lt (off := 6) (tgt := 15) (by decide +kernel) (by decide) (fun h9 => ?_) (fun h9 => ?_)
  · have h9 : (aM A) < 10 := zz_bL_t (by omega) (by omega) h9
    exfalso; omega
  · have h9 : (aM A) ≥ 10 := zz_bL_f (by omega) (by omega) h9
    refine Ev.run [(.bipush (-4), 2)] (pc' := 14) (L' := [some (.ref 0), none]) (S' := [.int ((-4))]) rfl (by decide +kernel) rfl ?_
    exact Ev.iret rfl (by decide +kernel) (⟨rfl, rfl⟩)

set_option maxRecDepth 100000 in
set_option maxHeartbeats 4000000 in
theorem c_X6_write_n {sc : Nat × (Nat → Int32)} {d : Nat} (I : Nat → Nat → Int32) (J : Nat → Nat → Int64) (A : zA) (hC : CR 3 I A) (hW : WF A) (np : Nat) (pd : Nat → Nat) (hP : zz_rf I 1 np pd) (hnp : np ≤ 30) (hpr : ∀ j, j < np → 33 ≤ pd j ∧ pd j ≤ 126) (hm : aM A < 10) (x : Nat) (hf : fS np pd = some x) (hx : x < 900) : EvM sc (d + 6) 0 0 mX6_write [.ref 0] (zz_SH, I, J) (zz_is (.int (-5)) (zz_SH, I, J)) := by
  have w1 := hW.1.1
  have w2 := hW.1.2.1
  refine EvM.of (by decide) rfl (Nat.le_of_ble_eq_true rfl) ?_
  show Ev _ _ _ _ _ 0 [some (.ref 0), none] [] (zz_SH, I, J) _
  refine Ev.run [(.aload_n 0, 1), (.getfield 21, 3), (.getfield 98, 3)] (pc' := 7) (L' := [some (.ref 0), none]) (S' := [.int (I 3 11)]) rfl (by decide +kernel) rfl ?_
  rw [show I 3 11 = nI (aM A) from hC.1.1.2]
  refine Ev.run [(.bipush 10, 2)] (pc' := 9) (L' := [some (.ref 0), none]) (S' := [.int (nI 10), .int (nI (aM A))]) rfl (by decide +kernel) rfl ?_
  refine Ev.icmp_lt (off := 6) (tgt := 15) (by decide +kernel) (by decide) (fun h9 => ?_) (fun h9 => ?_)
  · have h9 : (aM A) < 10 := zz_bL_t (by omega) (by omega) h9
    refine Ev.run [(.aload_n 0, 1)] (pc' := 16) (L' := [some (.ref 0), none]) (S' := [.ref 0]) rfl (by decide +kernel) rfl ?_
    refine Ev.callV0 mX6_faultAsSentence [] [] _ rfl lk_RX6_62 (by decide +kernel) (rfl) rfl rfl rfl (Nat.le_of_ble_eq_true rfl) (c_X6_faultAsSentence I J np pd hP hnp hpr) ?_
    rintro _ _ ⟨rfl, rfl⟩
    rw [hf]
    show Ev _ _ _ _ _ 19 [some (.ref 0), none] [.int (nI x)] (zz_SH, I, J) _
    refine Ev.run [(.bipush (-6), 2)] (pc' := 21) (L' := [some (.ref 0), none]) (S' := [.int ((-6)), .int (nI x)]) rfl (by decide +kernel) rfl ?_
    refine Ev.icmp_eq (off := 6) (tgt := 27) (by decide +kernel) (by decide) (fun h21 => absurd h21 (fun q => zz_m6 (x + 1) (by omega) ⟨x, Nat.lt_succ_self x, q.symm⟩)) (fun h21 => ?_)
    refine Ev.run [(.bipush (-5), 2)] (pc' := 26) (L' := [some (.ref 0), none]) (S' := [.int ((-5))]) rfl (by decide +kernel) rfl ?_
    exact Ev.iret rfl (by decide +kernel) (⟨rfl, rfl⟩)
  · have h9 : (aM A) ≥ 10 := zz_bL_f (by omega) (by omega) h9
    exfalso; omega

set_option maxRecDepth 100000 in
set_option maxHeartbeats 4000000 in
theorem c_X6_write_k {sc : Nat × (Nat → Int32)} {d : Nat} (I : Nat → Nat → Int32) (J : Nat → Nat → Int64) (A : zA) (hC : CR 3 I A) (hW : WF A) (np : Nat) (pd : Nat → Nat) (hP : zz_rf I 1 np pd) (hnp : np ≤ 30) (hpr : ∀ j, j < np → 33 ≤ pd j ∧ pd j ≤ 126) (hm : aM A < 10) (hf : fS np pd = none) : EvM sc (d + 6) 0 0 mX6_write [.ref 0] (zz_SH, I, J) (fun r σ => r = some (.int (nI (aM A))) ∧ ∃ I' : Nat → Nat → Int32, CR 3 I' (addT A np pd) ∧ KC I I' ∧ σ = (zz_SH, I', J)) := by
  have w1 := hW.1.1
  have w2 := hW.1.2.1
  have g1 := fS_none hf
  refine EvM.of (by decide) rfl (Nat.le_of_ble_eq_true rfl) ?_
  show Ev _ _ _ _ _ 0 [some (.ref 0), none] [] (zz_SH, I, J) _
  refine Ev.run [(.aload_n 0, 1), (.getfield 21, 3), (.getfield 98, 3)] (pc' := 7) (L' := [some (.ref 0), none]) (S' := [.int (I 3 11)]) rfl (by decide +kernel) rfl ?_
  rw [show I 3 11 = nI (aM A) from hC.1.1.2]
  refine Ev.run [(.bipush 10, 2)] (pc' := 9) (L' := [some (.ref 0), none]) (S' := [.int (nI 10), .int (nI (aM A))]) rfl (by decide +kernel) rfl ?_
  refine Ev.icmp_lt (off := 6) (tgt := 15) (by decide +kernel) (by decide) (fun h9 => ?_) (fun h9 => ?_)
  · have h9 : (aM A) < 10 := zz_bL_t (by omega) (by omega) h9
    refine Ev.run [(.aload_n 0, 1)] (pc' := 16) (L' := [some (.ref 0), none]) (S' := [.ref 0]) rfl (by decide +kernel) rfl ?_
    refine Ev.callV0 mX6_faultAsSentence [] [] _ rfl lk_RX6_62 (by decide +kernel) (rfl) rfl rfl rfl (Nat.le_of_ble_eq_true rfl) (c_X6_faultAsSentence I J np pd hP hnp hpr) ?_
    rintro _ _ ⟨rfl, rfl⟩
    rw [hf]
    show Ev _ _ _ _ _ 19 [some (.ref 0), none] [.int ((-6))] (zz_SH, I, J) _
    refine Ev.run [(.bipush (-6), 2)] (pc' := 21) (L' := [some (.ref 0), none]) (S' := [.int ((-6)), .int ((-6))]) rfl (by decide +kernel) rfl ?_
    refine Ev.icmp_eq (off := 6) (tgt := 27) (by decide +kernel) (by decide) (fun h21 => ?_) (fun h21 => ?_)
    · refine Ev.run [(.aload_n 0, 1), (.getfield 21, 3), (.getfield 98, 3)] (pc' := 34) (L' := [some (.ref 0), none]) (S' := [.int (I 3 11)]) rfl (by decide +kernel) rfl ?_
      rw [show I 3 11 = nI (aM A) from hC.1.1.2]
      refine Ev.run [(.istore_n 1, 1), (.aload_n 0, 1), (.getfield 21, 3), (.getfield 101, 3), (.iload_n 1, 1)] (pc' := 43) (L' := [some (.ref 0), some (.int (nI (aM A)))]) (S' := [.int (nI (aM A)), .ref 7]) rfl (by decide +kernel) rfl ?_
      refine Ev.aald (aM A) (by decide +kernel) (rfl) (by decide) (rfl) (by omega) (by first | decide | omega) (zz_a84 (aM A) (by omega)) ?_
      refine Ev.run [(.aload_n 0, 1), (.getfield 14, 3), (.iconst 0, 1), (.aload_n 0, 1), (.getfield 14, 3), (.getfield 58, 3)] (pc' := 56) (L' := [some (.ref 0), some (.int (nI (aM A)))]) (S' := [.int (I 1 1), .int (nI 0), .ref 1, .ref (84 + 2 * (aM A))]) rfl (by decide +kernel) rfl ?_
      rw [hP.1]
      refine Ev.callV0 mX4_takePart [.ref 1, .int (nI 0), .int (nI np)] [] _ rfl lk_RX6_83 (by decide +kernel) ((zz_r84 (aM A) (by omega)).1) rfl rfl rfl (Nat.le_of_ble_eq_true rfl) (c_X4_takePart I J (84 + 2 * (aM A)) 12 1 30 np 0 np (zz_r84 (aM A) (by omega)) zz_row1 hP.1 hnp (by omega) (Nat.zero_le _) (Nat.le_refl _) (by omega)) ?_
      rintro _ _ ⟨rfl, rfl⟩
      generalize hX : zz_sr I (84 + 2 * (aM A)) (zz_mix (fun j => I (1 + 1) (0 + j)) (I (84 + 2 * (aM A) + 1)) (np - 0)) (np - 0) = X1
      show Ev _ _ _ _ _ 59 [some (.ref 0), some (.int (nI (aM A)))] [] (zz_SH, X1, J) _
      refine Ev.run [(.aload_n 0, 1), (.getfield 21, 3), (.dup, 1), (.getfield 98, 3)] (pc' := 67) (L' := [some (.ref 0), some (.int (nI (aM A)))]) (S' := [.int (X1 3 11), .ref 3]) rfl (by decide +kernel) rfl ?_
      rw [show X1 3 11 = nI (aM A) from by rw [← hX, zz_sr_o (by omega) (by omega)]; exact hC.1.1.2]
      refine Ev.run [(.iconst 1, 1), (.iadd, 1)] (pc' := 69) (L' := [some (.ref 0), some (.int (nI (aM A)))]) (S' := [.int (nI (aM A) + nI 1), .ref 3]) rfl (by decide +kernel) rfl ?_
      rw [nI_add (aM A) 1]
      refine Ev.putf (idx := 98) rfl rfl rfl (by decide +kernel) (rfl) rfl ?_
      dsimp only
      refine Ev.run [(.aload_n 0, 1), (.getfield 36, 3), (.aload_n 0, 1), (.getfield 21, 3), (.iload_n 1, 1)] (pc' := 81) (L' := [some (.ref 0), some (.int (nI (aM A)))]) (S' := [.int (nI (aM A)), .ref 3, .ref 308]) rfl (by decide +kernel) rfl ?_
      have hrow : zz_rf X1 (84 + 2 * aM A) np pd := by rw [← hX]; exact zz_rf_sr (fun j hj => by rw [Nat.zero_add]; exact hP.2 j hj)
      have hoth : ∀ c, c ≠ 84 + 2 * aM A → c ≠ 84 + 2 * aM A + 1 → X1 c = I c := fun c h1 h2 => by rw [← hX]; exact zz_sr_o h1 h2
      have hM2 : CM 3 (zz_up X1 3 11 (nI (aM A + 1))) (addT A np pd) := CM_addT hC.1 hW hm (by rw [zz_up_eq, zz_upn (by decide), hoth 3 (by omega) (by omega)]) (by rw [zz_up_eq, zz_ups]) (hrow.fr (zz_up_ne (by omega)) (zz_up_ne (by omega))) (fun c h1 h2 h3 h4 h5 => by rw [zz_up_ne (by omega)]; exact hoth c h4 h5)
      have hW2 : WF (addT A np pd) := WF_addT hW hm g1.1 g1.2 hpr
      refine Ev.callV0 mX1_meetSentence [.ref 3, .int (nI (aM A))] [] _ rfl lk_RX6_104 (by decide +kernel) (rfl) rfl rfl rfl (Nat.le_of_ble_eq_true rfl) (c_X1_meetSentence (zz_up X1 3 11 (nI (aM A + 1))) J (addT A np pd) hM2 hW2 (aM A) (Nat.lt_succ_self _)) ?_
      rintro _ _ ⟨rfl, I3, rfl, f1, f2, f3, f4, f5⟩
      show Ev _ _ _ _ _ 84 [some (.ref 0), some (.int (nI (aM A)))] [] (zz_SH, I3, J) _
      refine Ev.run [(.aload_n 0, 1), (.getfield 14, 3), (.iconst 0, 1)] (pc' := 89) (L' := [some (.ref 0), some (.int (nI (aM A)))]) (S' := [.int (nI 0), .ref 1]) rfl (by decide +kernel) rfl ?_
      refine Ev.putf (idx := 58) rfl rfl rfl (by decide +kernel) (rfl) rfl ?_
      dsimp only
      refine Ev.run [(.iload_n 1, 1)] (pc' := 93) (L' := [some (.ref 0), some (.int (nI (aM A)))]) (S' := [.int (nI (aM A))]) rfl (by decide +kernel) rfl ?_
      exact Ev.iret rfl (by decide +kernel) (⟨rfl, _, ⟨hM2.fr hW2 (fun c h1 h2 h3 => by rw [zz_up_ne (by omega)]; exact f1 c (by omega) (by omega)), CT_addT hC.2.1 hW hm (fun p hp => by rw [zz_up_ne (by omega)]; exact f2 p hp) (fun s h1 h2 => by rw [zz_up_ne (by omega), f3 s h1 h2, zz_up_ne (by omega), hoth _ (by omega) (by omega)]) (fun u hu => by rw [zz_up_ne (by omega), zz_up_ne (by omega)]; exact f4 u hu) (fun u v h1 h2 h3 => by rw [zz_up_ne (by omega), f5 u v h1 h2 h3, zz_up_ne (by omega), hoth _ (by omega) (by omega)]), ⟨fun p hp => ⟨by rw [zz_up_ne (by omega), f1 _ (by omega) (by omega), zz_up_ne (by omega), hoth _ (by omega) (by omega)]; exact (hC.2.2.1 p hp).1, by rw [zz_up_ne (by omega), f1 _ (by omega) (by omega), zz_up_ne (by omega), hoth _ (by omega) (by omega)]; exact (hC.2.2.1 p hp).2⟩, fun s hs => by rw [zz_up_ne (by omega), f1 _ (by omega) (by omega), zz_up_ne (by omega)]; by_cases e : s = aM A; exact ⟨np, g1.2, by rw [e]; exact hrow.1⟩; rw [hoth _ (by omega) (by omega)]; exact hC.2.2.2 s hs⟩⟩, ⟨fun c h1 h2 => by rw [zz_up_ne (by omega), f1 c (by omega) h2, zz_up_ne (by omega), hoth c (by omega) (by omega)], by rw [zz_up_eq, zz_ups]⟩, rfl⟩)
    · exact absurd rfl h21
  · have h9 : (aM A) ≥ 10 := zz_bL_f (by omega) (by omega) h9
    exfalso; omega

set_option maxRecDepth 100000 in
set_option maxHeartbeats 4000000 in
theorem c_X6_keep_u {sc : Nat × (Nat → Int32)} {d : Nat} (I : Nat → Nat → Int32) (J : Nat → Nat → Int64) (A : zA) (hC : CR 3 I A) (hW : WF A) (x : Int32) (hx1 : ¬ x = (-1)) (hx : ¬ zz_ix x (aN A)) : EvM sc (d + 6) 0 0 mX6_keep [.ref 0, .int x] (zz_SH, I, J) (zz_is (.int (-1)) (zz_SH, I, J)) := by
  have w1 := hW.1.1
  have w2 := hW.1.2.1
  refine EvM.of (by decide) rfl (Nat.le_of_ble_eq_true rfl) ?_
  show Ev _ _ _ _ _ 0 [some (.ref 0), some (.int x), none, none] [] (zz_SH, I, J) _
  refine Ev.run [(.iload_n 1, 1), (.iconst (-1), 1)] (pc' := 2) (L' := [some (.ref 0), some (.int x), none, none]) (S' := [.int ((-1)), .int x]) rfl (by decide +kernel) rfl ?_
  refine Ev.icmp_eq (off := 16) (tgt := 18) (by decide +kernel) (by decide) (fun h2 => absurd h2 hx1) (fun h2 => ?_)
  refine Ev.run [(.aload_n 0, 1), (.getfield 21, 3), (.iload_n 1, 1)] (pc' := 10) (L' := [some (.ref 0), some (.int x), none, none]) (S' := [.int x, .ref 3]) rfl (by decide +kernel) rfl ?_
  refine Ev.callV0 mX2_isPair [.int x] [] _ rfl lk_RX6_69 (by decide +kernel) (rfl) rfl rfl rfl (Nat.le_of_ble_eq_true rfl) (c_X2_isPair I J (aN A) x hC.1.1.1 hW.1.1) ?_
  rintro _ _ ⟨rfl, ⟨rfl, h10⟩ | ⟨rfl, h10⟩⟩
  · exact absurd h10 hx
  · show Ev _ _ _ _ _ 13 [some (.ref 0), some (.int x), none, none] [.int (nI 0)] (zz_SH, I, J) _
    refine Ev.if_ne (off := 5) (tgt := 18) (by decide +kernel) (by decide) (fun h13 => absurd h13 (by decide)) (fun h13 => ?_)
    refine Ev.run [(.iconst (-1), 1)] (pc' := 17) (L' := [some (.ref 0), some (.int x), none, none]) (S' := [.int ((-1))]) rfl (by decide +kernel) rfl ?_
    exact Ev.iret rfl (by decide +kernel) (⟨rfl, rfl⟩)

set_option maxRecDepth 100000 in
set_option maxHeartbeats 4000000 in
theorem c_X6_keep_fn {sc : Nat × (Nat → Int32)} {d : Nat} (I : Nat → Nat → Int32) (J : Nat → Nat → Int64) (A : zA) (hC : CR 3 I A) (hW : WF A) (hm : aN A = 12) : EvM sc (d + 6) 0 0 mX6_keep [.ref 0, .int ((-1))] (zz_SH, I, J) (zz_is (.int (-4)) (zz_SH, I, J)) := by
  have w1 := hW.1.1
  have w2 := hW.1.2.1
  refine EvM.of (by decide) rfl (Nat.le_of_ble_eq_true rfl) ?_
  show Ev _ _ _ _ _ 0 [some (.ref 0), some (.int ((-1))), none, none] [] (zz_SH, I, J) _
  refine Ev.run [(.iload_n 1, 1), (.iconst (-1), 1)] (pc' := 2) (L' := [some (.ref 0), some (.int ((-1))), none, none]) (S' := [.int ((-1)), .int ((-1))]) rfl (by decide +kernel) rfl ?_
  refine Ev.icmp_eq (off := 16) (tgt := 18) (by decide +kernel) (by decide) (fun h2 => ?_) (fun h2 => absurd h2 (by decide))
  refine Ev.run [(.aload_n 0, 1), (.getfield 21, 3), (.getfield 72, 3)] (pc' := 25) (L' := [some (.ref 0), some (.int ((-1))), none, none]) (S' := [.int (I 3 10)]) rfl (by decide +kernel) rfl ?_
  rw [show I 3 10 = nI (aN A) from hC.1.1.1]
  refine Ev.run [(.bipush 12, 2)] (pc' := 27) (L' := [some (.ref 0), some (.int ((-1))), none, none]) (S' := [.int (nI 12), .int (nI (aN A))]) rfl (by decide +kernel) rfl ?_
  refine Ev.icmp_lt (off := 6) (tgt := 33) (by decide +kernel) (by decide) (fun h27 => ?_) (fun h27 => ?_)
  · have h27 : (aN A) < 12 := zz_bL_t (by omega) (by omega) h27
    exfalso; omega
  · have h27 : (aN A) ≥ 12 := zz_bL_f (by omega) (by omega) h27
    refine Ev.run [(.bipush (-4), 2)] (pc' := 32) (L' := [some (.ref 0), some (.int ((-1))), none, none]) (S' := [.int ((-4))]) rfl (by decide +kernel) rfl ?_
    exact Ev.iret rfl (by decide +kernel) (⟨rfl, rfl⟩)

set_option maxRecDepth 100000 in
set_option maxHeartbeats 4000000 in
theorem c_X6_keep_nn {sc : Nat × (Nat → Int32)} {d : Nat} (I : Nat → Nat → Int32) (J : Nat → Nat → Int64) (A : zA) (hC : CR 3 I A) (hW : WF A) (np : Nat) (pd : Nat → Nat) (hP : zz_rf I 1 np pd) (hnp : np ≤ 30) (hpr : ∀ j, j < np → 33 ≤ pd j ∧ pd j ≤ 126) (hm : aN A < 12) (x : Nat) (hf : fP np pd = some x) (hx : x < 900) : EvM sc (d + 6) 0 0 mX6_keep [.ref 0, .int ((-1))] (zz_SH, I, J) (zz_is (.int (-5)) (zz_SH, I, J)) := by
  have w1 := hW.1.1
  have w2 := hW.1.2.1
  refine EvM.of (by decide) rfl (Nat.le_of_ble_eq_true rfl) ?_
  show Ev _ _ _ _ _ 0 [some (.ref 0), some (.int ((-1))), none, none] [] (zz_SH, I, J) _
  refine Ev.run [(.iload_n 1, 1), (.iconst (-1), 1)] (pc' := 2) (L' := [some (.ref 0), some (.int ((-1))), none, none]) (S' := [.int ((-1)), .int ((-1))]) rfl (by decide +kernel) rfl ?_
  refine Ev.icmp_eq (off := 16) (tgt := 18) (by decide +kernel) (by decide) (fun h2 => ?_) (fun h2 => absurd h2 (by decide))
  refine Ev.run [(.aload_n 0, 1), (.getfield 21, 3), (.getfield 72, 3)] (pc' := 25) (L' := [some (.ref 0), some (.int ((-1))), none, none]) (S' := [.int (I 3 10)]) rfl (by decide +kernel) rfl ?_
  rw [show I 3 10 = nI (aN A) from hC.1.1.1]
  refine Ev.run [(.bipush 12, 2)] (pc' := 27) (L' := [some (.ref 0), some (.int ((-1))), none, none]) (S' := [.int (nI 12), .int (nI (aN A))]) rfl (by decide +kernel) rfl ?_
  refine Ev.icmp_lt (off := 6) (tgt := 33) (by decide +kernel) (by decide) (fun h27 => ?_) (fun h27 => ?_)
  · have h27 : (aN A) < 12 := zz_bL_t (by omega) (by omega) h27
    refine Ev.run [(.aload_n 0, 1)] (pc' := 34) (L' := [some (.ref 0), some (.int ((-1))), none, none]) (S' := [.ref 0]) rfl (by decide +kernel) rfl ?_
    refine Ev.callV0 mX6_faultAsPair [] [] _ rfl lk_RX6_66 (by decide +kernel) (rfl) rfl rfl rfl (Nat.le_of_ble_eq_true rfl) (c_X6_faultAsPair I J np pd hP hnp hpr) ?_
    rintro _ _ ⟨rfl, rfl⟩
    rw [hf]
    show Ev _ _ _ _ _ 37 [some (.ref 0), some (.int ((-1))), none, none] [.int (nI x)] (zz_SH, I, J) _
    refine Ev.run [(.bipush (-6), 2)] (pc' := 39) (L' := [some (.ref 0), some (.int ((-1))), none, none]) (S' := [.int ((-6)), .int (nI x)]) rfl (by decide +kernel) rfl ?_
    refine Ev.icmp_eq (off := 6) (tgt := 45) (by decide +kernel) (by decide) (fun h39 => absurd h39 (fun q => zz_m6 (x + 1) (by omega) ⟨x, Nat.lt_succ_self x, q.symm⟩)) (fun h39 => ?_)
    refine Ev.run [(.bipush (-5), 2)] (pc' := 44) (L' := [some (.ref 0), some (.int ((-1))), none, none]) (S' := [.int ((-5))]) rfl (by decide +kernel) rfl ?_
    exact Ev.iret rfl (by decide +kernel) (⟨rfl, rfl⟩)
  · have h27 : (aN A) ≥ 12 := zz_bL_f (by omega) (by omega) h27
    exfalso; omega

set_option maxRecDepth 100000 in
set_option maxHeartbeats 4000000 in
theorem c_X6_keep_kn {sc : Nat × (Nat → Int32)} {d : Nat} (I : Nat → Nat → Int32) (J : Nat → Nat → Int64) (A : zA) (hC : CR 3 I A) (hW : WF A) (np : Nat) (pd : Nat → Nat) (hP : zz_rf I 1 np pd) (hnp : np ≤ 30) (hpr : ∀ j, j < np → 33 ≤ pd j ∧ pd j ≤ 126) (hm : aN A < 12) (hf : fP np pd = none) : EvM sc (d + 6) 0 0 mX6_keep [.ref 0, .int ((-1))] (zz_SH, I, J) (fun r σ => r = some (.int (nI (aN A))) ∧ ∃ I' : Nat → Nat → Int32, CR 3 I' (addP A np pd (E1 np pd) none) ∧ KC I I' ∧ σ = (zz_SH, I', J)) := by
  have w1 := hW.1.1
  have w2 := hW.1.2.1
  have g1 := fP_none hf
  refine EvM.of (by decide) rfl (Nat.le_of_ble_eq_true rfl) ?_
  show Ev _ _ _ _ _ 0 [some (.ref 0), some (.int ((-1))), none, none] [] (zz_SH, I, J) _
  refine Ev.run [(.iload_n 1, 1), (.iconst (-1), 1)] (pc' := 2) (L' := [some (.ref 0), some (.int ((-1))), none, none]) (S' := [.int ((-1)), .int ((-1))]) rfl (by decide +kernel) rfl ?_
  refine Ev.icmp_eq (off := 16) (tgt := 18) (by decide +kernel) (by decide) (fun h2 => ?_) (fun h2 => absurd h2 (by decide))
  refine Ev.run [(.aload_n 0, 1), (.getfield 21, 3), (.getfield 72, 3)] (pc' := 25) (L' := [some (.ref 0), some (.int ((-1))), none, none]) (S' := [.int (I 3 10)]) rfl (by decide +kernel) rfl ?_
  rw [show I 3 10 = nI (aN A) from hC.1.1.1]
  refine Ev.run [(.bipush 12, 2)] (pc' := 27) (L' := [some (.ref 0), some (.int ((-1))), none, none]) (S' := [.int (nI 12), .int (nI (aN A))]) rfl (by decide +kernel) rfl ?_
  refine Ev.icmp_lt (off := 6) (tgt := 33) (by decide +kernel) (by decide) (fun h27 => ?_) (fun h27 => ?_)
  · have h27 : (aN A) < 12 := zz_bL_t (by omega) (by omega) h27
    refine Ev.run [(.aload_n 0, 1)] (pc' := 34) (L' := [some (.ref 0), some (.int ((-1))), none, none]) (S' := [.ref 0]) rfl (by decide +kernel) rfl ?_
    refine Ev.callV0 mX6_faultAsPair [] [] _ rfl lk_RX6_66 (by decide +kernel) (rfl) rfl rfl rfl (Nat.le_of_ble_eq_true rfl) (c_X6_faultAsPair I J np pd hP hnp hpr) ?_
    rintro _ _ ⟨rfl, rfl⟩
    rw [hf]
    show Ev _ _ _ _ _ 37 [some (.ref 0), some (.int ((-1))), none, none] [.int ((-6))] (zz_SH, I, J) _
    refine Ev.run [(.bipush (-6), 2)] (pc' := 39) (L' := [some (.ref 0), some (.int ((-1))), none, none]) (S' := [.int ((-6)), .int ((-6))]) rfl (by decide +kernel) rfl ?_
    refine Ev.icmp_eq (off := 6) (tgt := 45) (by decide +kernel) (by decide) (fun h39 => ?_) (fun h39 => ?_)
    · refine Ev.run [(.aload_n 0, 1), (.getfield 21, 3), (.getfield 72, 3)] (pc' := 52) (L' := [some (.ref 0), some (.int ((-1))), none, none]) (S' := [.int (I 3 10)]) rfl (by decide +kernel) rfl ?_
      rw [show I 3 10 = nI (aN A) from hC.1.1.1]
      refine Ev.run [(.istore_n 2, 1), (.aload_n 0, 1), (.iconst 0, 1), (.bipush 97, 2)] (pc' := 57) (L' := [some (.ref 0), some (.int ((-1))), some (.int (nI (aN A))), none]) (S' := [.int (nI 97), .int (nI 0), .ref 0]) rfl (by decide +kernel) rfl ?_
      refine Ev.callV0 mX6_endOfTongue [.int (nI 0), .int (nI 97)] [] _ rfl lk_RX6_75 (by decide +kernel) (rfl) rfl rfl rfl (Nat.le_of_ble_eq_true rfl) (c_X6_endOfTongue I J np pd hP hnp hpr 97 0 (by decide) (Nat.zero_le _)) ?_
      rintro _ _ ⟨rfl, rfl⟩
      rw [show et np pd 97 12 0 = E1 np pd from rfl]
      show Ev _ _ _ _ _ 60 [some (.ref 0), some (.int ((-1))), some (.int (nI (aN A))), none] [.int (nI (E1 np pd))] (zz_SH, I, J) _
      refine Ev.run [(.istore_n 3, 1), (.aload_n 0, 1), (.getfield 21, 3), (.getfield 79, 3), (.iload_n 2, 1)] (pc' := 69) (L' := [some (.ref 0), some (.int ((-1))), some (.int (nI (aN A))), some (.int (nI (E1 np pd)))]) (S' := [.int (nI (aN A)), .ref 4]) rfl (by decide +kernel) rfl ?_
      refine Ev.aald (aN A) (by decide +kernel) (rfl) (by decide) (rfl) (by omega) (by first | decide | omega) (zz_a36 (aN A) (by omega)) ?_
      refine Ev.run [(.aload_n 0, 1), (.getfield 14, 3), (.iconst 0, 1), (.iload_n 3, 1)] (pc' := 76) (L' := [some (.ref 0), some (.int ((-1))), some (.int (nI (aN A))), some (.int (nI (E1 np pd)))]) (S' := [.int (nI (E1 np pd)), .int (nI 0), .ref 1, .ref (36 + 4 * (aN A))]) rfl (by decide +kernel) rfl ?_
      refine Ev.callV0 mX4_takePart [.ref 1, .int (nI 0), .int (nI (E1 np pd))] [] _ rfl lk_RX6_83 (by decide +kernel) ((zz_r36 (aN A) (by omega)).1) rfl rfl rfl (Nat.le_of_ble_eq_true rfl) (c_X4_takePart I J (36 + 4 * (aN A)) 12 1 30 np 0 (E1 np pd) (zz_r36 (aN A) (by omega)) zz_row1 hP.1 hnp (by omega) (Nat.zero_le _) (by omega) (by omega)) ?_
      rintro _ _ ⟨rfl, rfl⟩
      generalize hX : zz_sr I (36 + 4 * (aN A)) (zz_mix (fun j => I (1 + 1) (0 + j)) (I (36 + 4 * (aN A) + 1)) (E1 np pd - 0)) (E1 np pd - 0) = X1
      have hrow1 : zz_rf X1 (36 + 4 * aN A) (E1 np pd) pd := by rw [← hX]; exact zz_rf_sr (fun j hj => by rw [Nat.zero_add]; exact hP.2 j (by omega))
      have hoth1 : ∀ c, c ≠ 36 + 4 * aN A → c ≠ 36 + 4 * aN A + 1 → X1 c = I c := fun c h1 h2 => by rw [← hX]; exact zz_sr_o h1 h2
      have hP1 : zz_rf X1 1 np pd := hP.fr (hoth1 1 (by omega) (by omega)) (hoth1 2 (by omega) (by omega))
      show Ev _ _ _ _ _ 79 [some (.ref 0), some (.int ((-1))), some (.int (nI (aN A))), some (.int (nI (E1 np pd)))] [] (zz_SH, X1, J) _
      refine Ev.run [(.aload_n 0, 1), (.getfield 21, 3), (.getfield 87, 3), (.iload_n 2, 1)] (pc' := 87) (L' := [some (.ref 0), some (.int ((-1))), some (.int (nI (aN A))), some (.int (nI (E1 np pd)))]) (S' := [.int (nI (aN A)), .ref 5]) rfl (by decide +kernel) rfl ?_
      refine Ev.aald (aN A) (by decide +kernel) (rfl) (by decide) (rfl) (by omega) (by first | decide | omega) (zz_a38 (aN A) (by omega)) ?_
      refine Ev.run [(.aload_n 0, 1), (.getfield 14, 3), (.iload_n 3, 1), (.iconst 1, 1), (.iadd, 1)] (pc' := 95) (L' := [some (.ref 0), some (.int ((-1))), some (.int (nI (aN A))), some (.int (nI (E1 np pd)))]) (S' := [.int (nI (E1 np pd) + nI 1), .ref 1, .ref (38 + 4 * (aN A))]) rfl (by decide +kernel) rfl ?_
      rw [nI_add (E1 np pd) 1]
      refine Ev.run [(.aload_n 0, 1), (.getfield 14, 3), (.getfield 58, 3)] (pc' := 102) (L' := [some (.ref 0), some (.int ((-1))), some (.int (nI (aN A))), some (.int (nI (E1 np pd)))]) (S' := [.int (X1 1 1), .int (nI ((E1 np pd) + 1)), .ref 1, .ref (38 + 4 * (aN A))]) rfl (by decide +kernel) rfl ?_
      rw [hP1.1]
      refine Ev.callV0 mX4_takePart [.ref 1, .int (nI ((E1 np pd) + 1)), .int (nI np)] [] _ rfl lk_RX6_83 (by decide +kernel) ((zz_r38 (aN A) (by omega)).1) rfl rfl rfl (Nat.le_of_ble_eq_true rfl) (c_X4_takePart X1 J (38 + 4 * (aN A)) 12 1 30 np (E1 np pd + 1) np (zz_r38 (aN A) (by omega)) zz_row1 hP1.1 hnp (by omega) (by omega) (Nat.le_refl _) (by omega)) ?_
      rintro _ _ ⟨rfl, rfl⟩
      generalize hY : zz_sr X1 (38 + 4 * (aN A)) (zz_mix (fun j => X1 (1 + 1) (E1 np pd + 1 + j)) (X1 (38 + 4 * (aN A) + 1)) (np - (E1 np pd + 1))) (np - (E1 np pd + 1)) = X2
      have hrow2 : zz_rf X2 (38 + 4 * aN A) (np - (E1 np pd + 1)) (fun j => pd (E1 np pd + 1 + j)) := by rw [← hY]; exact zz_rf_sr (fun j hj => hP1.2 _ (by omega))
      have hoth2 : ∀ c, c ≠ 38 + 4 * aN A → c ≠ 38 + 4 * aN A + 1 → X2 c = X1 c := fun c h1 h2 => by rw [← hY]; exact zz_sr_o h1 h2
      have hoth : ∀ c, (c < 36 + 4 * aN A ∨ 36 + 4 * aN A + 3 < c) → c ≠ 40000 → X2 c = I c := fun c h1 _ => (hoth2 c (by omega) (by omega)).trans (hoth1 c (by omega) (by omega))
      show Ev _ _ _ _ _ 105 [some (.ref 0), some (.int ((-1))), some (.int (nI (aN A))), some (.int (nI (E1 np pd)))] [] (zz_SH, X2, J) _
      refine Ev.run [(.aload_n 0, 1), (.getfield 21, 3), (.getfield 90, 3), (.iload_n 2, 1), (.iload_n 1, 1), (.iconst (-1), 1)] (pc' := 115) (L' := [some (.ref 0), some (.int ((-1))), some (.int (nI (aN A))), some (.int (nI (E1 np pd)))]) (S' := [.int ((-1)), .int ((-1)), .int (nI (aN A)), .ref 6]) rfl (by decide +kernel) rfl ?_
      refine Ev.icmp_ne (off := 8) (tgt := 123) (by decide +kernel) (by decide) (fun h115 => absurd h115 (by decide)) (fun h115 => ?_)
      refine Ev.run [(.bipush (-6), 2)] (pc' := 120) (L' := [some (.ref 0), some (.int ((-1))), some (.int (nI (aN A))), some (.int (nI (E1 np pd)))]) (S' := [.int ((-6)), .int (nI (aN A)), .ref 6]) rfl (by decide +kernel) rfl ?_
      refine Ev.goto (off := 4) (tgt := 124) (by decide +kernel) (by decide) ?_
      refine Ev.iast (aN A) (by decide +kernel) (rfl) (rfl) (by omega) (by first | decide | omega) ?_
      dsimp only
      refine Ev.run [(.aload_n 0, 1), (.getfield 21, 3), (.dup, 1), (.getfield 72, 3)] (pc' := 133) (L' := [some (.ref 0), some (.int ((-1))), some (.int (nI (aN A))), some (.int (nI (E1 np pd)))]) (S' := [.int ((zz_up X2 6 (aN A) ((-6))) 3 10), .ref 3]) rfl (by decide +kernel) rfl ?_
      rw [show (zz_up X2 6 (aN A) ((-6))) 3 10 = nI (aN A) from by rw [zz_up_ne (by decide), hoth 3 (by omega) (by omega)]; exact hC.1.1.1]
      refine Ev.run [(.iconst 1, 1), (.iadd, 1)] (pc' := 135) (L' := [some (.ref 0), some (.int ((-1))), some (.int (nI (aN A))), some (.int (nI (E1 np pd)))]) (S' := [.int (nI (aN A) + nI 1), .ref 3]) rfl (by decide +kernel) rfl ?_
      rw [nI_add (aN A) 1]
      refine Ev.putf (idx := 72) rfl rfl rfl (by decide +kernel) (rfl) rfl ?_
      dsimp only
      refine Ev.run [(.aload_n 0, 1), (.getfield 36, 3), (.aload_n 0, 1), (.getfield 21, 3), (.iload_n 2, 1)] (pc' := 147) (L' := [some (.ref 0), some (.int ((-1))), some (.int (nI (aN A))), some (.int (nI (E1 np pd)))]) (S' := [.int (nI (aN A)), .ref 3, .ref 308]) rfl (by decide +kernel) rfl ?_
      have hM2 : CM 3 (zz_up (zz_up X2 6 (aN A) ((-6))) 3 10 (nI (aN A + 1))) (addP A np pd (E1 np pd) none) := CM_addP hC.1 hW hm (by rw [zz_up_eq, zz_upn (by decide), zz_up_ne (by decide), hoth 3 (by omega) (by omega)]) (by rw [zz_up_eq, zz_ups]) ((hrow1.fr (hoth2 _ (by omega) (by omega)) (hoth2 _ (by omega) (by omega))).fr (by rw [zz_up_ne (by omega), zz_up_ne (by omega)]) (by rw [zz_up_ne (by omega), zz_up_ne (by omega)])) (hrow2.fr (by rw [zz_up_ne (by omega), zz_up_ne (by omega)]) (by rw [zz_up_ne (by omega), zz_up_ne (by omega)])) (by rw [zz_up_ne (by decide), zz_up_eq, zz_ups]; rfl) (fun p hp => by rw [zz_up_ne (by decide), zz_up_eq, zz_upn (by omega), hoth 6 (by omega) (by omega)]) (fun c h1 h2 h3 h4 h5 => by rw [zz_up_ne (by omega), zz_up_ne (by omega)]; exact hoth c h5 (by omega))
      have hW2 : WF (addP A np pd (E1 np pd) none) := WF_addP hW hm g1 hpr (fun q hq => by cases hq)
      generalize hA : addP A np pd (E1 np pd) none = A9 at hM2 hW2 ⊢
      have hA9 : aN A < aN A9 := by rw [← hA]; exact Nat.lt_succ_self _
      have hZo : ∀ c, c ≠ 6 → c ≠ 3 → (zz_up (zz_up X2 6 (aN A) ((-6))) 3 10 (nI (aN A + 1))) c = X2 c := fun c h1 h2 => by rw [zz_up_ne h2, zz_up_ne h1]
      generalize (zz_up (zz_up X2 6 (aN A) ((-6))) 3 10 (nI (aN A + 1))) = Z9 at hM2 hZo ⊢
      refine Ev.callV0 mX1_meetPair [.ref 3, .int (nI (aN A))] [] _ rfl lk_RX6_94 (by decide +kernel) (rfl) rfl rfl rfl (Nat.le_of_ble_eq_true rfl) (c_X1_meetPair Z9 J A9 hM2 hW2 (aN A) hA9) ?_
      rintro _ _ ⟨rfl, I3, rfl, f1, f2⟩
      show Ev _ _ _ _ _ 150 [some (.ref 0), some (.int ((-1))), some (.int (nI (aN A))), some (.int (nI (E1 np pd)))] [] (zz_SH, I3, J) _
      refine Ev.run [(.aload_n 0, 1), (.getfield 14, 3), (.iconst 0, 1)] (pc' := 155) (L' := [some (.ref 0), some (.int ((-1))), some (.int (nI (aN A))), some (.int (nI (E1 np pd)))]) (S' := [.int (nI 0), .ref 1]) rfl (by decide +kernel) rfl ?_
      refine Ev.putf (idx := 58) rfl rfl rfl (by decide +kernel) (rfl) rfl ?_
      dsimp only
      refine Ev.run [(.iload_n 2, 1)] (pc' := 159) (L' := [some (.ref 0), some (.int ((-1))), some (.int (nI (aN A))), some (.int (nI (E1 np pd)))]) (S' := [.int (nI (aN A))]) rfl (by decide +kernel) rfl ?_
      exact Ev.iret rfl (by decide +kernel) (⟨rfl, _, ⟨hM2.fr hW2 (fun c h1 h2 h3 => by rw [zz_up_ne (by omega)]; exact f1 c (by omega) (by omega)), (by rw [← hA] at f2 ⊢; exact CT_addP hC.2.1 hW (fun s hs => by have hs2 : s < aM A := hs; rw [zz_up_ne (by omega), f2 s hs, hZo _ (by omega) (by omega), hoth _ (by omega) (by omega)]) (fun s hs => by rw [zz_up_ne (by omega), f1 _ (by omega) (by omega), hZo _ (by omega) (by omega), hoth _ (by omega) (by omega)])), ⟨fun p hp => ⟨by rw [zz_up_ne (by omega), f1 _ (by omega) (by omega), hZo _ (by omega) (by omega)]; by_cases e : p = aN A; exact ⟨E1 np pd, by omega, by rw [e, hoth2 _ (by omega) (by omega)]; exact hrow1.1⟩; rw [hoth _ (by omega) (by omega)]; exact (hC.2.2.1 p hp).1, by rw [zz_up_ne (by omega), f1 _ (by omega) (by omega), hZo _ (by omega) (by omega)]; by_cases e : p = aN A; exact ⟨np - (E1 np pd + 1), by omega, by rw [e]; exact hrow2.1⟩; rw [hoth _ (by omega) (by omega)]; exact (hC.2.2.1 p hp).2⟩, fun s hs => by rw [zz_up_ne (by omega), f1 _ (by omega) (by omega), hZo _ (by omega) (by omega), hoth _ (by omega) (by omega)]; exact hC.2.2.2 s hs⟩⟩, ⟨fun c h1 h2 => by rw [zz_up_ne (by omega), f1 c (by omega) h2, hZo _ (by omega) (by omega)]; exact (hoth2 c (by omega) (by omega)).trans (hoth1 c (by omega) (by omega)), by rw [zz_up_eq, zz_ups]⟩, rfl⟩)
    · exact absurd rfl h39
  · have h27 : (aN A) ≥ 12 := zz_bL_f (by omega) (by omega) h27
    exfalso; omega

set_option maxRecDepth 100000 in
set_option maxHeartbeats 4000000 in
theorem c_X6_keep_fs {sc : Nat × (Nat → Int32)} {d : Nat} (I : Nat → Nat → Int32) (J : Nat → Nat → Int64) (A : zA) (hC : CR 3 I A) (hW : WF A) (b : Nat) (hb : b < aN A) (hm : aN A = 12) : EvM sc (d + 6) 0 0 mX6_keep [.ref 0, .int (nI b)] (zz_SH, I, J) (zz_is (.int (-4)) (zz_SH, I, J)) := by
  have w1 := hW.1.1
  have w2 := hW.1.2.1
  refine EvM.of (by decide) rfl (Nat.le_of_ble_eq_true rfl) ?_
  show Ev _ _ _ _ _ 0 [some (.ref 0), some (.int (nI b)), none, none] [] (zz_SH, I, J) _
  refine Ev.run [(.iload_n 1, 1), (.iconst (-1), 1)] (pc' := 2) (L' := [some (.ref 0), some (.int (nI b)), none, none]) (S' := [.int ((-1)), .int (nI b)]) rfl (by decide +kernel) rfl ?_
  refine Ev.icmp_eq (off := 16) (tgt := 18) (by decide +kernel) (by decide) (fun h2 => absurd h2 (zz_nm b (by omega))) (fun h2 => ?_)
  refine Ev.run [(.aload_n 0, 1), (.getfield 21, 3), (.iload_n 1, 1)] (pc' := 10) (L' := [some (.ref 0), some (.int (nI b)), none, none]) (S' := [.int (nI b), .ref 3]) rfl (by decide +kernel) rfl ?_
  refine Ev.callV0 mX2_isPair [.int (nI b)] [] _ rfl lk_RX6_69 (by decide +kernel) (rfl) rfl rfl rfl (Nat.le_of_ble_eq_true rfl) (c_X2_isPair I J (aN A) (nI b) hC.1.1.1 hW.1.1) ?_
  rintro _ _ ⟨rfl, ⟨rfl, h10⟩ | ⟨rfl, h10⟩⟩
  · show Ev _ _ _ _ _ 13 [some (.ref 0), some (.int (nI b)), none, none] [.int (nI 1)] (zz_SH, I, J) _
    refine Ev.if_ne (off := 5) (tgt := 18) (by decide +kernel) (by decide) (fun h13 => ?_) (fun h13 => absurd h13 (by decide))
    refine Ev.run [(.aload_n 0, 1), (.getfield 21, 3), (.getfield 72, 3)] (pc' := 25) (L' := [some (.ref 0), some (.int (nI b)), none, none]) (S' := [.int (I 3 10)]) rfl (by decide +kernel) rfl ?_
    rw [show I 3 10 = nI (aN A) from hC.1.1.1]
    refine Ev.run [(.bipush 12, 2)] (pc' := 27) (L' := [some (.ref 0), some (.int (nI b)), none, none]) (S' := [.int (nI 12), .int (nI (aN A))]) rfl (by decide +kernel) rfl ?_
    refine Ev.icmp_lt (off := 6) (tgt := 33) (by decide +kernel) (by decide) (fun h27 => ?_) (fun h27 => ?_)
    · have h27 : (aN A) < 12 := zz_bL_t (by omega) (by omega) h27
      exfalso; omega
    · have h27 : (aN A) ≥ 12 := zz_bL_f (by omega) (by omega) h27
      refine Ev.run [(.bipush (-4), 2)] (pc' := 32) (L' := [some (.ref 0), some (.int (nI b)), none, none]) (S' := [.int ((-4))]) rfl (by decide +kernel) rfl ?_
      exact Ev.iret rfl (by decide +kernel) (⟨rfl, rfl⟩)
  · exact absurd ⟨b, hb, rfl⟩ h10

set_option maxRecDepth 100000 in
set_option maxHeartbeats 4000000 in
theorem c_X6_keep_ns {sc : Nat × (Nat → Int32)} {d : Nat} (I : Nat → Nat → Int32) (J : Nat → Nat → Int64) (A : zA) (hC : CR 3 I A) (hW : WF A) (np : Nat) (pd : Nat → Nat) (hP : zz_rf I 1 np pd) (hnp : np ≤ 30) (hpr : ∀ j, j < np → 33 ≤ pd j ∧ pd j ≤ 126) (b : Nat) (hb : b < aN A) (hm : aN A < 12) (x : Nat) (hf : fP np pd = some x) (hx : x < 900) : EvM sc (d + 6) 0 0 mX6_keep [.ref 0, .int (nI b)] (zz_SH, I, J) (zz_is (.int (-5)) (zz_SH, I, J)) := by
  have w1 := hW.1.1
  have w2 := hW.1.2.1
  refine EvM.of (by decide) rfl (Nat.le_of_ble_eq_true rfl) ?_
  show Ev _ _ _ _ _ 0 [some (.ref 0), some (.int (nI b)), none, none] [] (zz_SH, I, J) _
  refine Ev.run [(.iload_n 1, 1), (.iconst (-1), 1)] (pc' := 2) (L' := [some (.ref 0), some (.int (nI b)), none, none]) (S' := [.int ((-1)), .int (nI b)]) rfl (by decide +kernel) rfl ?_
  refine Ev.icmp_eq (off := 16) (tgt := 18) (by decide +kernel) (by decide) (fun h2 => absurd h2 (zz_nm b (by omega))) (fun h2 => ?_)
  refine Ev.run [(.aload_n 0, 1), (.getfield 21, 3), (.iload_n 1, 1)] (pc' := 10) (L' := [some (.ref 0), some (.int (nI b)), none, none]) (S' := [.int (nI b), .ref 3]) rfl (by decide +kernel) rfl ?_
  refine Ev.callV0 mX2_isPair [.int (nI b)] [] _ rfl lk_RX6_69 (by decide +kernel) (rfl) rfl rfl rfl (Nat.le_of_ble_eq_true rfl) (c_X2_isPair I J (aN A) (nI b) hC.1.1.1 hW.1.1) ?_
  rintro _ _ ⟨rfl, ⟨rfl, h10⟩ | ⟨rfl, h10⟩⟩
  · show Ev _ _ _ _ _ 13 [some (.ref 0), some (.int (nI b)), none, none] [.int (nI 1)] (zz_SH, I, J) _
    refine Ev.if_ne (off := 5) (tgt := 18) (by decide +kernel) (by decide) (fun h13 => ?_) (fun h13 => absurd h13 (by decide))
    refine Ev.run [(.aload_n 0, 1), (.getfield 21, 3), (.getfield 72, 3)] (pc' := 25) (L' := [some (.ref 0), some (.int (nI b)), none, none]) (S' := [.int (I 3 10)]) rfl (by decide +kernel) rfl ?_
    rw [show I 3 10 = nI (aN A) from hC.1.1.1]
    refine Ev.run [(.bipush 12, 2)] (pc' := 27) (L' := [some (.ref 0), some (.int (nI b)), none, none]) (S' := [.int (nI 12), .int (nI (aN A))]) rfl (by decide +kernel) rfl ?_
    refine Ev.icmp_lt (off := 6) (tgt := 33) (by decide +kernel) (by decide) (fun h27 => ?_) (fun h27 => ?_)
    · have h27 : (aN A) < 12 := zz_bL_t (by omega) (by omega) h27
      refine Ev.run [(.aload_n 0, 1)] (pc' := 34) (L' := [some (.ref 0), some (.int (nI b)), none, none]) (S' := [.ref 0]) rfl (by decide +kernel) rfl ?_
      refine Ev.callV0 mX6_faultAsPair [] [] _ rfl lk_RX6_66 (by decide +kernel) (rfl) rfl rfl rfl (Nat.le_of_ble_eq_true rfl) (c_X6_faultAsPair I J np pd hP hnp hpr) ?_
      rintro _ _ ⟨rfl, rfl⟩
      rw [hf]
      show Ev _ _ _ _ _ 37 [some (.ref 0), some (.int (nI b)), none, none] [.int (nI x)] (zz_SH, I, J) _
      refine Ev.run [(.bipush (-6), 2)] (pc' := 39) (L' := [some (.ref 0), some (.int (nI b)), none, none]) (S' := [.int ((-6)), .int (nI x)]) rfl (by decide +kernel) rfl ?_
      refine Ev.icmp_eq (off := 6) (tgt := 45) (by decide +kernel) (by decide) (fun h39 => absurd h39 (fun q => zz_m6 (x + 1) (by omega) ⟨x, Nat.lt_succ_self x, q.symm⟩)) (fun h39 => ?_)
      refine Ev.run [(.bipush (-5), 2)] (pc' := 44) (L' := [some (.ref 0), some (.int (nI b)), none, none]) (S' := [.int ((-5))]) rfl (by decide +kernel) rfl ?_
      exact Ev.iret rfl (by decide +kernel) (⟨rfl, rfl⟩)
    · have h27 : (aN A) ≥ 12 := zz_bL_f (by omega) (by omega) h27
      exfalso; omega
  · exact absurd ⟨b, hb, rfl⟩ h10

set_option maxRecDepth 100000 in
set_option maxHeartbeats 4000000 in
theorem c_X6_keep_ks {sc : Nat × (Nat → Int32)} {d : Nat} (I : Nat → Nat → Int32) (J : Nat → Nat → Int64) (A : zA) (hC : CR 3 I A) (hW : WF A) (np : Nat) (pd : Nat → Nat) (hP : zz_rf I 1 np pd) (hnp : np ≤ 30) (hpr : ∀ j, j < np → 33 ≤ pd j ∧ pd j ≤ 126) (b : Nat) (hb : b < aN A) (hm : aN A < 12) (hf : fP np pd = none) : EvM sc (d + 6) 0 0 mX6_keep [.ref 0, .int (nI b)] (zz_SH, I, J) (fun r σ => r = some (.int (nI (aN A))) ∧ ∃ I' : Nat → Nat → Int32, CR 3 I' (addP A np pd (E1 np pd) (some b)) ∧ KC I I' ∧ σ = (zz_SH, I', J)) := by
  have w1 := hW.1.1
  have w2 := hW.1.2.1
  have g1 := fP_none hf
  refine EvM.of (by decide) rfl (Nat.le_of_ble_eq_true rfl) ?_
  show Ev _ _ _ _ _ 0 [some (.ref 0), some (.int (nI b)), none, none] [] (zz_SH, I, J) _
  refine Ev.run [(.iload_n 1, 1), (.iconst (-1), 1)] (pc' := 2) (L' := [some (.ref 0), some (.int (nI b)), none, none]) (S' := [.int ((-1)), .int (nI b)]) rfl (by decide +kernel) rfl ?_
  refine Ev.icmp_eq (off := 16) (tgt := 18) (by decide +kernel) (by decide) (fun h2 => absurd h2 (zz_nm b (by omega))) (fun h2 => ?_)
  refine Ev.run [(.aload_n 0, 1), (.getfield 21, 3), (.iload_n 1, 1)] (pc' := 10) (L' := [some (.ref 0), some (.int (nI b)), none, none]) (S' := [.int (nI b), .ref 3]) rfl (by decide +kernel) rfl ?_
  refine Ev.callV0 mX2_isPair [.int (nI b)] [] _ rfl lk_RX6_69 (by decide +kernel) (rfl) rfl rfl rfl (Nat.le_of_ble_eq_true rfl) (c_X2_isPair I J (aN A) (nI b) hC.1.1.1 hW.1.1) ?_
  rintro _ _ ⟨rfl, ⟨rfl, h10⟩ | ⟨rfl, h10⟩⟩
  · show Ev _ _ _ _ _ 13 [some (.ref 0), some (.int (nI b)), none, none] [.int (nI 1)] (zz_SH, I, J) _
    refine Ev.if_ne (off := 5) (tgt := 18) (by decide +kernel) (by decide) (fun h13 => ?_) (fun h13 => absurd h13 (by decide))
    refine Ev.run [(.aload_n 0, 1), (.getfield 21, 3), (.getfield 72, 3)] (pc' := 25) (L' := [some (.ref 0), some (.int (nI b)), none, none]) (S' := [.int (I 3 10)]) rfl (by decide +kernel) rfl ?_
    rw [show I 3 10 = nI (aN A) from hC.1.1.1]
    refine Ev.run [(.bipush 12, 2)] (pc' := 27) (L' := [some (.ref 0), some (.int (nI b)), none, none]) (S' := [.int (nI 12), .int (nI (aN A))]) rfl (by decide +kernel) rfl ?_
    refine Ev.icmp_lt (off := 6) (tgt := 33) (by decide +kernel) (by decide) (fun h27 => ?_) (fun h27 => ?_)
    · have h27 : (aN A) < 12 := zz_bL_t (by omega) (by omega) h27
      refine Ev.run [(.aload_n 0, 1)] (pc' := 34) (L' := [some (.ref 0), some (.int (nI b)), none, none]) (S' := [.ref 0]) rfl (by decide +kernel) rfl ?_
      refine Ev.callV0 mX6_faultAsPair [] [] _ rfl lk_RX6_66 (by decide +kernel) (rfl) rfl rfl rfl (Nat.le_of_ble_eq_true rfl) (c_X6_faultAsPair I J np pd hP hnp hpr) ?_
      rintro _ _ ⟨rfl, rfl⟩
      rw [hf]
      show Ev _ _ _ _ _ 37 [some (.ref 0), some (.int (nI b)), none, none] [.int ((-6))] (zz_SH, I, J) _
      refine Ev.run [(.bipush (-6), 2)] (pc' := 39) (L' := [some (.ref 0), some (.int (nI b)), none, none]) (S' := [.int ((-6)), .int ((-6))]) rfl (by decide +kernel) rfl ?_
      refine Ev.icmp_eq (off := 6) (tgt := 45) (by decide +kernel) (by decide) (fun h39 => ?_) (fun h39 => ?_)
      · refine Ev.run [(.aload_n 0, 1), (.getfield 21, 3), (.getfield 72, 3)] (pc' := 52) (L' := [some (.ref 0), some (.int (nI b)), none, none]) (S' := [.int (I 3 10)]) rfl (by decide +kernel) rfl ?_
        rw [show I 3 10 = nI (aN A) from hC.1.1.1]
        refine Ev.run [(.istore_n 2, 1), (.aload_n 0, 1), (.iconst 0, 1), (.bipush 97, 2)] (pc' := 57) (L' := [some (.ref 0), some (.int (nI b)), some (.int (nI (aN A))), none]) (S' := [.int (nI 97), .int (nI 0), .ref 0]) rfl (by decide +kernel) rfl ?_
        refine Ev.callV0 mX6_endOfTongue [.int (nI 0), .int (nI 97)] [] _ rfl lk_RX6_75 (by decide +kernel) (rfl) rfl rfl rfl (Nat.le_of_ble_eq_true rfl) (c_X6_endOfTongue I J np pd hP hnp hpr 97 0 (by decide) (Nat.zero_le _)) ?_
        rintro _ _ ⟨rfl, rfl⟩
        rw [show et np pd 97 12 0 = E1 np pd from rfl]
        show Ev _ _ _ _ _ 60 [some (.ref 0), some (.int (nI b)), some (.int (nI (aN A))), none] [.int (nI (E1 np pd))] (zz_SH, I, J) _
        refine Ev.run [(.istore_n 3, 1), (.aload_n 0, 1), (.getfield 21, 3), (.getfield 79, 3), (.iload_n 2, 1)] (pc' := 69) (L' := [some (.ref 0), some (.int (nI b)), some (.int (nI (aN A))), some (.int (nI (E1 np pd)))]) (S' := [.int (nI (aN A)), .ref 4]) rfl (by decide +kernel) rfl ?_
        refine Ev.aald (aN A) (by decide +kernel) (rfl) (by decide) (rfl) (by omega) (by first | decide | omega) (zz_a36 (aN A) (by omega)) ?_
        refine Ev.run [(.aload_n 0, 1), (.getfield 14, 3), (.iconst 0, 1), (.iload_n 3, 1)] (pc' := 76) (L' := [some (.ref 0), some (.int (nI b)), some (.int (nI (aN A))), some (.int (nI (E1 np pd)))]) (S' := [.int (nI (E1 np pd)), .int (nI 0), .ref 1, .ref (36 + 4 * (aN A))]) rfl (by decide +kernel) rfl ?_
        refine Ev.callV0 mX4_takePart [.ref 1, .int (nI 0), .int (nI (E1 np pd))] [] _ rfl lk_RX6_83 (by decide +kernel) ((zz_r36 (aN A) (by omega)).1) rfl rfl rfl (Nat.le_of_ble_eq_true rfl) (c_X4_takePart I J (36 + 4 * (aN A)) 12 1 30 np 0 (E1 np pd) (zz_r36 (aN A) (by omega)) zz_row1 hP.1 hnp (by omega) (Nat.zero_le _) (by omega) (by omega)) ?_
        rintro _ _ ⟨rfl, rfl⟩
        generalize hX : zz_sr I (36 + 4 * (aN A)) (zz_mix (fun j => I (1 + 1) (0 + j)) (I (36 + 4 * (aN A) + 1)) (E1 np pd - 0)) (E1 np pd - 0) = X1
        have hrow1 : zz_rf X1 (36 + 4 * aN A) (E1 np pd) pd := by rw [← hX]; exact zz_rf_sr (fun j hj => by rw [Nat.zero_add]; exact hP.2 j (by omega))
        have hoth1 : ∀ c, c ≠ 36 + 4 * aN A → c ≠ 36 + 4 * aN A + 1 → X1 c = I c := fun c h1 h2 => by rw [← hX]; exact zz_sr_o h1 h2
        have hP1 : zz_rf X1 1 np pd := hP.fr (hoth1 1 (by omega) (by omega)) (hoth1 2 (by omega) (by omega))
        show Ev _ _ _ _ _ 79 [some (.ref 0), some (.int (nI b)), some (.int (nI (aN A))), some (.int (nI (E1 np pd)))] [] (zz_SH, X1, J) _
        refine Ev.run [(.aload_n 0, 1), (.getfield 21, 3), (.getfield 87, 3), (.iload_n 2, 1)] (pc' := 87) (L' := [some (.ref 0), some (.int (nI b)), some (.int (nI (aN A))), some (.int (nI (E1 np pd)))]) (S' := [.int (nI (aN A)), .ref 5]) rfl (by decide +kernel) rfl ?_
        refine Ev.aald (aN A) (by decide +kernel) (rfl) (by decide) (rfl) (by omega) (by first | decide | omega) (zz_a38 (aN A) (by omega)) ?_
        refine Ev.run [(.aload_n 0, 1), (.getfield 14, 3), (.iload_n 3, 1), (.iconst 1, 1), (.iadd, 1)] (pc' := 95) (L' := [some (.ref 0), some (.int (nI b)), some (.int (nI (aN A))), some (.int (nI (E1 np pd)))]) (S' := [.int (nI (E1 np pd) + nI 1), .ref 1, .ref (38 + 4 * (aN A))]) rfl (by decide +kernel) rfl ?_
        rw [nI_add (E1 np pd) 1]
        refine Ev.run [(.aload_n 0, 1), (.getfield 14, 3), (.getfield 58, 3)] (pc' := 102) (L' := [some (.ref 0), some (.int (nI b)), some (.int (nI (aN A))), some (.int (nI (E1 np pd)))]) (S' := [.int (X1 1 1), .int (nI ((E1 np pd) + 1)), .ref 1, .ref (38 + 4 * (aN A))]) rfl (by decide +kernel) rfl ?_
        rw [hP1.1]
        refine Ev.callV0 mX4_takePart [.ref 1, .int (nI ((E1 np pd) + 1)), .int (nI np)] [] _ rfl lk_RX6_83 (by decide +kernel) ((zz_r38 (aN A) (by omega)).1) rfl rfl rfl (Nat.le_of_ble_eq_true rfl) (c_X4_takePart X1 J (38 + 4 * (aN A)) 12 1 30 np (E1 np pd + 1) np (zz_r38 (aN A) (by omega)) zz_row1 hP1.1 hnp (by omega) (by omega) (Nat.le_refl _) (by omega)) ?_
        rintro _ _ ⟨rfl, rfl⟩
        generalize hY : zz_sr X1 (38 + 4 * (aN A)) (zz_mix (fun j => X1 (1 + 1) (E1 np pd + 1 + j)) (X1 (38 + 4 * (aN A) + 1)) (np - (E1 np pd + 1))) (np - (E1 np pd + 1)) = X2
        have hrow2 : zz_rf X2 (38 + 4 * aN A) (np - (E1 np pd + 1)) (fun j => pd (E1 np pd + 1 + j)) := by rw [← hY]; exact zz_rf_sr (fun j hj => hP1.2 _ (by omega))
        have hoth2 : ∀ c, c ≠ 38 + 4 * aN A → c ≠ 38 + 4 * aN A + 1 → X2 c = X1 c := fun c h1 h2 => by rw [← hY]; exact zz_sr_o h1 h2
        have hoth : ∀ c, (c < 36 + 4 * aN A ∨ 36 + 4 * aN A + 3 < c) → c ≠ 40000 → X2 c = I c := fun c h1 _ => (hoth2 c (by omega) (by omega)).trans (hoth1 c (by omega) (by omega))
        show Ev _ _ _ _ _ 105 [some (.ref 0), some (.int (nI b)), some (.int (nI (aN A))), some (.int (nI (E1 np pd)))] [] (zz_SH, X2, J) _
        refine Ev.run [(.aload_n 0, 1), (.getfield 21, 3), (.getfield 90, 3), (.iload_n 2, 1), (.iload_n 1, 1), (.iconst (-1), 1)] (pc' := 115) (L' := [some (.ref 0), some (.int (nI b)), some (.int (nI (aN A))), some (.int (nI (E1 np pd)))]) (S' := [.int ((-1)), .int (nI b), .int (nI (aN A)), .ref 6]) rfl (by decide +kernel) rfl ?_
        refine Ev.icmp_ne (off := 8) (tgt := 123) (by decide +kernel) (by decide) (fun h115 => ?_) (fun h115 => absurd h115 (zz_nm b (by omega)))
        refine Ev.run [(.iload_n 1, 1)] (pc' := 124) (L' := [some (.ref 0), some (.int (nI b)), some (.int (nI (aN A))), some (.int (nI (E1 np pd)))]) (S' := [.int (nI b), .int (nI (aN A)), .ref 6]) rfl (by decide +kernel) rfl ?_
        refine Ev.iast (aN A) (by decide +kernel) (rfl) (rfl) (by omega) (by first | decide | omega) ?_
        dsimp only
        refine Ev.run [(.aload_n 0, 1), (.getfield 21, 3), (.dup, 1), (.getfield 72, 3)] (pc' := 133) (L' := [some (.ref 0), some (.int (nI b)), some (.int (nI (aN A))), some (.int (nI (E1 np pd)))]) (S' := [.int ((zz_up X2 6 (aN A) (nI b)) 3 10), .ref 3]) rfl (by decide +kernel) rfl ?_
        rw [show (zz_up X2 6 (aN A) (nI b)) 3 10 = nI (aN A) from by rw [zz_up_ne (by decide), hoth 3 (by omega) (by omega)]; exact hC.1.1.1]
        refine Ev.run [(.iconst 1, 1), (.iadd, 1)] (pc' := 135) (L' := [some (.ref 0), some (.int (nI b)), some (.int (nI (aN A))), some (.int (nI (E1 np pd)))]) (S' := [.int (nI (aN A) + nI 1), .ref 3]) rfl (by decide +kernel) rfl ?_
        rw [nI_add (aN A) 1]
        refine Ev.putf (idx := 72) rfl rfl rfl (by decide +kernel) (rfl) rfl ?_
        dsimp only
        refine Ev.run [(.aload_n 0, 1), (.getfield 36, 3), (.aload_n 0, 1), (.getfield 21, 3), (.iload_n 2, 1)] (pc' := 147) (L' := [some (.ref 0), some (.int (nI b)), some (.int (nI (aN A))), some (.int (nI (E1 np pd)))]) (S' := [.int (nI (aN A)), .ref 3, .ref 308]) rfl (by decide +kernel) rfl ?_
        have hM2 : CM 3 (zz_up (zz_up X2 6 (aN A) (nI b)) 3 10 (nI (aN A + 1))) (addP A np pd (E1 np pd) (some b)) := CM_addP hC.1 hW hm (by rw [zz_up_eq, zz_upn (by decide), zz_up_ne (by decide), hoth 3 (by omega) (by omega)]) (by rw [zz_up_eq, zz_ups]) ((hrow1.fr (hoth2 _ (by omega) (by omega)) (hoth2 _ (by omega) (by omega))).fr (by rw [zz_up_ne (by omega), zz_up_ne (by omega)]) (by rw [zz_up_ne (by omega), zz_up_ne (by omega)])) (hrow2.fr (by rw [zz_up_ne (by omega), zz_up_ne (by omega)]) (by rw [zz_up_ne (by omega), zz_up_ne (by omega)])) (by rw [zz_up_ne (by decide), zz_up_eq, zz_ups]; rfl) (fun p hp => by rw [zz_up_ne (by decide), zz_up_eq, zz_upn (by omega), hoth 6 (by omega) (by omega)]) (fun c h1 h2 h3 h4 h5 => by rw [zz_up_ne (by omega), zz_up_ne (by omega)]; exact hoth c h5 (by omega))
        have hW2 : WF (addP A np pd (E1 np pd) (some b)) := WF_addP hW hm g1 hpr (fun q hq => by cases hq; exact hb)
        generalize hA : addP A np pd (E1 np pd) (some b) = A9 at hM2 hW2 ⊢
        have hA9 : aN A < aN A9 := by rw [← hA]; exact Nat.lt_succ_self _
        have hZo : ∀ c, c ≠ 6 → c ≠ 3 → (zz_up (zz_up X2 6 (aN A) (nI b)) 3 10 (nI (aN A + 1))) c = X2 c := fun c h1 h2 => by rw [zz_up_ne h2, zz_up_ne h1]
        generalize (zz_up (zz_up X2 6 (aN A) (nI b)) 3 10 (nI (aN A + 1))) = Z9 at hM2 hZo ⊢
        refine Ev.callV0 mX1_meetPair [.ref 3, .int (nI (aN A))] [] _ rfl lk_RX6_94 (by decide +kernel) (rfl) rfl rfl rfl (Nat.le_of_ble_eq_true rfl) (c_X1_meetPair Z9 J A9 hM2 hW2 (aN A) hA9) ?_
        rintro _ _ ⟨rfl, I3, rfl, f1, f2⟩
        show Ev _ _ _ _ _ 150 [some (.ref 0), some (.int (nI b)), some (.int (nI (aN A))), some (.int (nI (E1 np pd)))] [] (zz_SH, I3, J) _
        refine Ev.run [(.aload_n 0, 1), (.getfield 14, 3), (.iconst 0, 1)] (pc' := 155) (L' := [some (.ref 0), some (.int (nI b)), some (.int (nI (aN A))), some (.int (nI (E1 np pd)))]) (S' := [.int (nI 0), .ref 1]) rfl (by decide +kernel) rfl ?_
        refine Ev.putf (idx := 58) rfl rfl rfl (by decide +kernel) (rfl) rfl ?_
        dsimp only
        refine Ev.run [(.iload_n 2, 1)] (pc' := 159) (L' := [some (.ref 0), some (.int (nI b)), some (.int (nI (aN A))), some (.int (nI (E1 np pd)))]) (S' := [.int (nI (aN A))]) rfl (by decide +kernel) rfl ?_
        exact Ev.iret rfl (by decide +kernel) (⟨rfl, _, ⟨hM2.fr hW2 (fun c h1 h2 h3 => by rw [zz_up_ne (by omega)]; exact f1 c (by omega) (by omega)), (by rw [← hA] at f2 ⊢; exact CT_addP hC.2.1 hW (fun s hs => by have hs2 : s < aM A := hs; rw [zz_up_ne (by omega), f2 s hs, hZo _ (by omega) (by omega), hoth _ (by omega) (by omega)]) (fun s hs => by rw [zz_up_ne (by omega), f1 _ (by omega) (by omega), hZo _ (by omega) (by omega), hoth _ (by omega) (by omega)])), ⟨fun p hp => ⟨by rw [zz_up_ne (by omega), f1 _ (by omega) (by omega), hZo _ (by omega) (by omega)]; by_cases e : p = aN A; exact ⟨E1 np pd, by omega, by rw [e, hoth2 _ (by omega) (by omega)]; exact hrow1.1⟩; rw [hoth _ (by omega) (by omega)]; exact (hC.2.2.1 p hp).1, by rw [zz_up_ne (by omega), f1 _ (by omega) (by omega), hZo _ (by omega) (by omega)]; by_cases e : p = aN A; exact ⟨np - (E1 np pd + 1), by omega, by rw [e]; exact hrow2.1⟩; rw [hoth _ (by omega) (by omega)]; exact (hC.2.2.1 p hp).2⟩, fun s hs => by rw [zz_up_ne (by omega), f1 _ (by omega) (by omega), hZo _ (by omega) (by omega), hoth _ (by omega) (by omega)]; exact hC.2.2.2 s hs⟩⟩, ⟨fun c h1 h2 => by rw [zz_up_ne (by omega), f1 c (by omega) h2, hZo _ (by omega) (by omega)]; exact (hoth2 c (by omega) (by omega)).trans (hoth1 c (by omega) (by omega)), by rw [zz_up_eq, zz_ups]⟩, rfl⟩)
      · exact absurd rfl h39
    · have h27 : (aN A) ≥ 12 := zz_bL_f (by omega) (by omega) h27
      exfalso; omega
  · exact absurd ⟨b, hb, rfl⟩ h10
