/-! ===== the class: otherwise ===== -/

set_option maxRecDepth 100000 in
set_option maxHeartbeats 4000000 in
theorem l_X5_ci {sc : Nat × (Nat → Int32)} {d : Nat} (I : Nat → Nat → Int32) (J : Nat → Nat → Int64) (k s : Nat) (f : Nat → Nat) (hk : zz_row k 12) (hrf : zz_rf I k s f) (hs : s ≤ 12) (hfr : ∀ i, i < s → f i < 1000) (wa be : Nat) (hwa : wa < 1000) : ∀ (μ : Nat) (i : Nat) (h : Nat → Int32), s - i < μ → (i ≤ s) → (∀ j, j < i → h j = nI (if f j = wa then be else f j)) → (∀ j, i ≤ j → j < s → h j = nI (f j)) →  Ev sc (d + 1) 0 0 mX5_changeIn 5 [some (.ref k), some (.int (nI wa)), some (.int (nI be)), some (.int (nI (ctN f wa i))), some (.int (nI i))] [] (zz_SH, zz_cs I (k + 1) h, J) (fun r σ => r = some (.int (nI (ctN f wa s))) ∧ ∃ h : Nat → Int32, (∀ j, j < s → h j = nI (if f j = wa then be else f j)) ∧ σ = (zz_SH, zz_cs I (k + 1) h, J)) := by
  intro μ
  induction μ with
  | zero => intro i h hμ; exact absurd hμ (Nat.not_lt_zero _)
  | succ μ ih =>
    intro i h hμ hi h1 h2
    have hsz : (zz_cs I (k + 1) h) k 1 = nI s := by rw [zz_cs_ne (by omega)]; exact hrf.1
    have b9 := ctN_le f wa i
    refine Ev.run [(.iload 4, 2), (.aload_n 0, 1)] (pc' := 8) (L' := [some (.ref k), some (.int (nI wa)), some (.int (nI be)), some (.int (nI (ctN f wa i))), some (.int (nI i))]) (S' := [.ref k, .int (nI i)]) rfl (by decide +kernel) rfl ?_
    refine Ev.getf (idx := 55) (x := none) (v := .int ((zz_cs I (k + 1) h) k 1)) rfl rfl (by decide +kernel) (hk.1) rfl rfl ?_
    rw [hsz]
    refine Ev.icmp_ge (off := 29) (tgt := 40) (by decide +kernel) (by decide) (fun h11 => ?_) (fun h11 => ?_)
    · have h11 : i ≥ s := zz_bG_t (by omega) (by omega) h11
      have his : s = i := by omega
      refine Ev.run [(.iload_n 3, 1)] (pc' := 41) (L' := [some (.ref k), some (.int (nI wa)), some (.int (nI be)), some (.int (nI (ctN f wa i))), some (.int (nI i))]) (S' := [.int (nI (ctN f wa i))]) rfl (by decide +kernel) rfl ?_
      exact Ev.iret rfl (by decide +kernel) (⟨by rw [his], h, fun j hj => h1 j (by omega), rfl⟩)
    · have h11 : i < s := zz_bG_f (by omega) (by omega) h11
      refine Ev.run [(.aload_n 0, 1), (.iload 4, 2)] (pc' := 17) (L' := [some (.ref k), some (.int (nI wa)), some (.int (nI be)), some (.int (nI (ctN f wa i))), some (.int (nI i))]) (S' := [.int (nI i), .ref k]) rfl (by decide +kernel) rfl ?_
      refine Ev.callV0 mX4_at [.int (nI i)] [] _ rfl lk_RX5_58 (by decide +kernel) (hk.1) rfl rfl rfl (Nat.le_of_ble_eq_true rfl) (c_X4_at (zz_cs I (k + 1) h) J k 12 (nI i) hk) ?_
      rintro _ _ ⟨rfl, rfl⟩
      rw [zz_rat_in hsz hs (by decide) (by omega), zz_cs_eq, h2 i (Nat.le_refl _) (by omega)]
      have b1 := hfr i (by omega)
      show Ev _ _ _ _ _ 20 [some (.ref k), some (.int (nI wa)), some (.int (nI be)), some (.int (nI (ctN f wa i))), some (.int (nI i))] [.int (nI (f i))] (zz_SH, zz_cs I (k + 1) h, J) _
      refine Ev.run [(.iload_n 1, 1)] (pc' := 21) (L' := [some (.ref k), some (.int (nI wa)), some (.int (nI be)), some (.int (nI (ctN f wa i))), some (.int (nI i))]) (S' := [.int (nI wa), .int (nI (f i))]) rfl (by decide +kernel) rfl ?_
      refine Ev.icmp_ne (off := 13) (tgt := 34) (by decide +kernel) (by decide) (fun h21 => ?_) (fun h21 => ?_)
      · have h21 : ¬ (f i) = wa := zz_bE_f (by omega) (by omega) h21
        refine Ev.run [(.iinc 4 1, 3)] (pc' := 37) (L' := [some (.ref k), some (.int (nI wa)), some (.int (nI be)), some (.int (nI (ctN f wa i))), some (.int (nI i + 1))]) (S' := []) rfl (by decide +kernel) rfl ?_
        rw [nI_1 i]
        refine Ev.goto (off := (-32)) (tgt := 5) (by decide +kernel) (by decide) ?_
        rw [show ctN f wa i = ctN f wa (i + 1) from by rw [ctN, if_neg h21] <;> rfl]
        refine ih (i + 1) h (by omega) (by omega) (fun j hj => ?_) (fun j h3 h4 => h2 j (by omega) h4)
        by_cases e : j = i
        · rw [e, if_neg h21]; exact h2 i (Nat.le_refl _) (by omega)
        · exact h1 j (by omega)
      · have h21 : (f i) = wa := zz_bE_t (by omega) (by omega) h21
        refine Ev.run [(.aload_n 0, 1), (.iload 4, 2), (.iload_n 2, 1)] (pc' := 28) (L' := [some (.ref k), some (.int (nI wa)), some (.int (nI be)), some (.int (nI (ctN f wa i))), some (.int (nI i))]) (S' := [.int (nI be), .int (nI i), .ref k]) rfl (by decide +kernel) rfl ?_
        refine Ev.callV0 mX4_put [.int (nI i), .int (nI be)] [] _ rfl lk_RX5_61 (by decide +kernel) (hk.1) rfl rfl rfl (Nat.le_of_ble_eq_true rfl) (c_X4_put (zz_cs I (k + 1) h) J k 12 s i (nI be) hk hsz hs (by omega)) ?_
        rintro _ _ ⟨rfl, rfl⟩
        rw [zz_cs_up]
        show Ev _ _ _ _ _ 31 [some (.ref k), some (.int (nI wa)), some (.int (nI be)), some (.int (nI (ctN f wa i))), some (.int (nI i))] [] (zz_SH, zz_cs I (k + 1) (upd h i (nI be)), J) _
        refine Ev.run [(.iinc 3 1, 3)] (pc' := 34) (L' := [some (.ref k), some (.int (nI wa)), some (.int (nI be)), some (.int (nI (ctN f wa i) + 1)), some (.int (nI i))]) (S' := []) rfl (by decide +kernel) rfl ?_
        rw [nI_1 (ctN f wa i)]
        refine Ev.run [(.iinc 4 1, 3)] (pc' := 37) (L' := [some (.ref k), some (.int (nI wa)), some (.int (nI be)), some (.int (nI ((ctN f wa i) + 1))), some (.int (nI i + 1))]) (S' := []) rfl (by decide +kernel) rfl ?_
        rw [nI_1 i]
        refine Ev.goto (off := (-32)) (tgt := 5) (by decide +kernel) (by decide) ?_
        rw [show ctN f wa i + 1 = ctN f wa (i + 1) from by rw [ctN, if_pos h21]]
        refine ih (i + 1) (upd h i (nI be)) (by omega) (by omega) (fun j hj => ?_) (fun j h3 h4 => by rw [zz_upn (by omega)]; exact h2 j (by omega) h4)
        by_cases e : j = i
        · rw [e, zz_ups, if_pos h21]
        · rw [zz_upn e]; exact h1 j (by omega)

set_option maxRecDepth 100000 in
set_option maxHeartbeats 4000000 in
theorem c_X5_changeIn {sc : Nat × (Nat → Int32)} {d : Nat} (I : Nat → Nat → Int32) (J : Nat → Nat → Int64) (k s : Nat) (f : Nat → Nat) (hk : zz_row k 12) (hrf : zz_rf I k s f) (hs : s ≤ 12) (hfr : ∀ i, i < s → f i < 1000) (wa be : Nat) (hwa : wa < 1000) : EvM sc (d + 1) 0 0 mX5_changeIn [.ref k, .int (nI wa), .int (nI be)] (zz_SH, I, J) (fun r σ => r = some (.int (nI (ctN f wa s))) ∧ ∃ h : Nat → Int32, (∀ j, j < s → h j = nI (if f j = wa then be else f j)) ∧ σ = (zz_SH, zz_cs I (k + 1) h, J)) := by
  refine EvM.of (by decide) rfl (Nat.le_of_ble_eq_true rfl) ?_
  show Ev _ _ _ _ _ 0 [some (.ref k), some (.int (nI wa)), some (.int (nI be)), none, none] [] (zz_SH, I, J) _
  refine Ev.run [(.iconst 0, 1), (.istore_n 3, 1), (.iconst 0, 1), (.istore 4, 2)] (pc' := 5) (L' := [some (.ref k), some (.int (nI wa)), some (.int (nI be)), some (.int (nI 0)), some (.int (nI 0))]) (S' := []) rfl (by decide +kernel) rfl ?_
  have h0 := l_X5_ci (sc := sc) (d := d) I J k s f hk hrf hs hfr wa be hwa (s + 1) 0 (I (k + 1)) (by omega) (by omega) (fun j hj => absurd hj (Nat.not_lt_zero j)) (fun j _ hj => hrf.2 j hj)
  rw [zz_cs_id] at h0
  exact h0

theorem CR_setG {I I' : Nat → Nat → Int32} {A : zA} {g : Nat → Nat → Nat} (hC : CR 3 I A) (hW : WF A) (f1 : ∀ c, (∀ t, t < 12 → c ≠ 38 + 4 * t + 1) → I' c = I c) (f2 : ∀ t, t < aN A → ∀ j, j < gz A t → I' (38 + 4 * t + 1) j = nI (g t j)) : CR 3 I' (setG A g) := by
  obtain ⟨⟨⟨v1, v2⟩, v3, v4, v5, v6, v7, v8⟩, hT, hZ⟩ := hC
  have w1 := hW.1.1
  have w2 := hW.1.2.1
  refine ⟨⟨⟨by rw [f1 3 (fun t _ => by omega)]; exact v1, by rw [f1 3 (fun t _ => by omega)]; exact v2⟩, fun p hp => ?_, fun s hs => ?_, fun r hr => ?_, fun w hw => ?_, ?_, ?_⟩, fun s hs => ⟨fun p hp => ?_, fun t ht => ?_⟩, fun p hp => ⟨?_, ?_⟩, fun s hs => ?_⟩
  · obtain ⟨a1, a2, a3⟩ := v3 p hp
    have hp' : p < aN A := hp
    exact ⟨by rw [f1 _ (fun t _ => by omega)]; exact a1, a2.fr (f1 _ (fun t _ => by omega)) (f1 _ (fun t _ => by omega)), by rw [f1 _ (fun t _ => by omega)]; exact a3.1, fun j hj => f2 p hp j hj⟩
  · have hs' : s < aM A := hs
    exact (v4 s hs).fr (f1 _ (fun t _ => by omega)) (f1 _ (fun t _ => by omega))
  · rw [f1 _ (fun t _ => by omega)]; exact v5 r hr
  · rw [f1 _ (fun t _ => by omega)]; exact v6 w hw
  · exact v7.fr (f1 _ (fun t _ => by omega)) (f1 _ (fun t _ => by omega))
  · exact v8.fr (f1 _ (fun t _ => by omega)) (f1 _ (fun t _ => by omega))
  · have hs' : s < aM A := hs
    rw [f1 _ (fun t _ => by omega)]; exact (hT s hs).1 p hp
  · have hs' : s < aM A := hs
    rw [f1 _ (fun t _ => by omega)]; exact (hT s hs).2 t ht
  · rw [f1 _ (fun t _ => by omega)]; exact (hZ.1 p hp).1
  · rw [f1 _ (fun t _ => by omega)]; exact (hZ.1 p hp).2
  · rw [f1 _ (fun t _ => by omega)]; exact hZ.2 s hs

set_option maxRecDepth 100000 in
set_option maxHeartbeats 4000000 in
theorem l_X5_change {sc : Nat × (Nat → Int32)} {d : Nat} (I : Nat → Nat → Int32) (J : Nat → Nat → Int64) (A : zA) (hC : CR 3 I A) (hW : WF A) (w u b : Nat) (hw : w < 16) (hu : u < 16) (hb : b < 16) : ∀ (μ : Nat) (p : Nat) (I1 : Nat → Nat → Int32), aN A - p < μ → (p ≤ aN A) → (∀ c, (∀ t, t < 12 → c ≠ 38 + 4 * t + 1) → I1 c = I c) → (∀ t, t < aN A → ∀ j, j < gz A t → I1 (38 + 4 * t + 1) j = nI (if t < p then otg A w u b t j else gg A t j)) →  Ev sc (d + 3) 0 0 mX5_change 6 [some (.ref 3), some (.int (nI w)), some (.int (nI u)), some (.int (nI b)), some (.int (nI (oc A w u p))), some (.int (nI p)), none] [] (zz_SH, I1, J) (fun r σ => r = some (.int (nI (oc A w u (aN A)))) ∧ ∃ I' : Nat → Nat → Int32, CR 3 I' (setG A (otg A w u b)) ∧ (∀ c, (∀ t, t < 12 → c ≠ 38 + 4 * t + 1) → I' c = I c) ∧ σ = (zz_SH, I', J)) := by
  intro μ
  induction μ with
  | zero => intro p I1 hμ; exact absurd hμ (Nat.not_lt_zero _)
  | succ μ ih =>
    intro p I1 hμ hp f1 f2
    have w1 := hW.1.1
    have w2 := hW.1.2.1
    have b9 := oc_le hW w u p hp
    refine Ev.run [(.iload 5, 2), (.aload_n 0, 1), (.getfield 31, 3)] (pc' := 12) (L' := [some (.ref 3), some (.int (nI w)), some (.int (nI u)), some (.int (nI b)), some (.int (nI (oc A w u p))), some (.int (nI p)), none]) (S' := [.int (I1 3 10), .int (nI p)]) rfl (by decide +kernel) rfl ?_
    rw [show I1 3 10 = nI (aN A) from by rw [f1 3 (fun t _ => by omega)]; exact hC.1.1.1]
    refine Ev.icmp_ge (off := 46) (tgt := 58) (by decide +kernel) (by decide) (fun h12 => ?_) (fun h12 => ?_)
    · have h12 : p ≥ (aN A) := zz_bG_t (by omega) (by omega) h12
      have hpN : aN A = p := by omega
      refine Ev.run [(.iload 4, 2)] (pc' := 60) (L' := [some (.ref 3), some (.int (nI w)), some (.int (nI u)), some (.int (nI b)), some (.int (nI (oc A w u p))), some (.int (nI p)), none]) (S' := [.int (nI (oc A w u p))]) rfl (by decide +kernel) rfl ?_
      exact Ev.iret rfl (by decide +kernel) (⟨by rw [hpN], I1, CR_setG hC hW f1 (fun t ht j hj => by rw [f2 t ht j hj, if_pos (by omega)]), f1, rfl⟩)
    · have h12 : p < (aN A) := zz_bG_f (by omega) (by omega) h12
      refine Ev.run [(.aload_n 0, 1), (.iload 5, 2), (.iload_n 1, 1)] (pc' := 19) (L' := [some (.ref 3), some (.int (nI w)), some (.int (nI u)), some (.int (nI b)), some (.int (nI (oc A w u p))), some (.int (nI p)), none]) (S' := [.int (nI w), .int (nI p), .ref 3]) rfl (by decide +kernel) rfl ?_
      refine Ev.callS0 mX5_inFirst [.ref 3, .int (nI p), .int (nI w)] [] _ rfl lk_RX5_35 (by decide +kernel) rfl (Nat.le_of_ble_eq_true rfl) (c_X5_inFirst I1 J A hW p w (by omega) hw ((hC.1.2.1 p (by omega)).2.1.fr (f1 _ (fun t _ => by omega)) (f1 _ (fun t _ => by omega)))) ?_
      rintro _ _ ⟨rfl, ⟨rfl, h19⟩ | ⟨rfl, h19⟩⟩
      · show Ev _ _ _ _ _ 22 [some (.ref 3), some (.int (nI w)), some (.int (nI u)), some (.int (nI b)), some (.int (nI (oc A w u p))), some (.int (nI p)), none] [.int (nI 1)] (zz_SH, I1, J) _
        refine Ev.if_eq (off := 30) (tgt := 52) (by decide +kernel) (by decide) (fun h22 => absurd h22 (by decide)) (fun h22 => ?_)
        refine Ev.run [(.aload_n 0, 1), (.getfield 25, 3), (.iload 5, 2)] (pc' := 31) (L' := [some (.ref 3), some (.int (nI w)), some (.int (nI u)), some (.int (nI b)), some (.int (nI (oc A w u p))), some (.int (nI p)), none]) (S' := [.int (nI p), .ref 5]) rfl (by decide +kernel) rfl ?_
        refine Ev.aald p (by decide +kernel) (rfl) (by decide) (rfl) (by omega) (by first | decide | omega) (zz_a38 p (by omega)) ?_
        refine Ev.run [(.astore 6, 2), (.iload 4, 2), (.aload 6, 2), (.bipush 65, 2), (.iload_n 2, 1), (.iadd, 1)] (pc' := 42) (L' := [some (.ref 3), some (.int (nI w)), some (.int (nI u)), some (.int (nI b)), some (.int (nI (oc A w u p))), some (.int (nI p)), some (.ref (38 + 4 * p))]) (S' := [.int (nI 65 + nI u), .ref (38 + 4 * p), .int (nI (oc A w u p))]) rfl (by decide +kernel) rfl ?_
        rw [nI_add 65 u]
        refine Ev.run [(.bipush 65, 2), (.iload_n 3, 1), (.iadd, 1)] (pc' := 46) (L' := [some (.ref 3), some (.int (nI w)), some (.int (nI u)), some (.int (nI b)), some (.int (nI (oc A w u p))), some (.int (nI p)), some (.ref (38 + 4 * p))]) (S' := [.int (nI 65 + nI b), .int (nI (65 + u)), .ref (38 + 4 * p), .int (nI (oc A w u p))]) rfl (by decide +kernel) rfl ?_
        rw [nI_add 65 b]
        refine Ev.callS0 mX5_changeIn [.ref (38 + 4 * p), .int (nI (65 + u)), .int (nI (65 + b))] [.int (nI (oc A w u p))] _ rfl lk_RX5_51 (by decide +kernel) rfl (Nat.le_of_ble_eq_true rfl) (c_X5_changeIn I1 J (38 + 4 * p) (gz A p) (gg A p) (zz_r38 p (by omega)) ⟨by rw [f1 _ (fun t _ => by omega)]; exact (hC.1.2.1 p (by omega)).2.2.1, fun j hj => by rw [f2 p (by omega) j hj, if_neg (Nat.lt_irrefl p)]⟩ (hW.2.1 p (by omega)).1.2.2.2 (hW.gg (by omega)) (65 + u) (65 + b) (by omega)) ?_
        rintro _ _ ⟨rfl, hh, hh1, rfl⟩
        show Ev _ _ _ _ _ 49 [some (.ref 3), some (.int (nI w)), some (.int (nI u)), some (.int (nI b)), some (.int (nI (oc A w u p))), some (.int (nI p)), some (.ref (38 + 4 * p))] [.int (nI (ctN (gg A p) (65 + u) (gz A p))), .int (nI (oc A w u p))] (zz_SH, zz_cs I1 (38 + 4 * p + 1) hh, J) _
        refine Ev.run [(.iadd, 1)] (pc' := 50) (L' := [some (.ref 3), some (.int (nI w)), some (.int (nI u)), some (.int (nI b)), some (.int (nI (oc A w u p))), some (.int (nI p)), some (.ref (38 + 4 * p))]) (S' := [.int (nI (oc A w u p) + nI (ctN (gg A p) (65 + u) (gz A p)))]) rfl (by decide +kernel) rfl ?_
        rw [nI_add (oc A w u p) (ctN (gg A p) (65 + u) (gz A p))]
        refine Ev.run [(.istore 4, 2), (.iinc 5 1, 3)] (pc' := 55) (L' := [some (.ref 3), some (.int (nI w)), some (.int (nI u)), some (.int (nI b)), some (.int (nI ((oc A w u p) + (ctN (gg A p) (65 + u) (gz A p))))), some (.int (nI p + 1)), some (.ref (38 + 4 * p))]) (S' := []) rfl (by decide +kernel) rfl ?_
        rw [nI_1 p]
        refine Ev.goto (off := (-49)) (tgt := 6) (by decide +kernel) (by decide) ?_
        refine Ev.weakL (L' := [some (.ref 3), some (.int (nI w)), some (.int (nI u)), some (.int (nI b)), some (.int (nI ((oc A w u p) + (ctN (gg A p) (65 + u) (gz A p))))), some (.int (nI (p + 1))), none]) ⟨rfl, rfl, rfl, rfl, rfl, rfl, trivial⟩ ?_
        rw [show oc A w u p + ctN (gg A p) (65 + u) (gz A p) = oc A w u (p + 1) from by rw [oc, if_pos h19, cG]]
        refine ih (p + 1) _ (by omega) (by omega) (fun c hc => by rw [zz_cs_ne (hc p (by omega))]; exact f1 c hc) (fun t ht j hj => ?_)
        by_cases e : t = p
        · have hj2 : j < gz A p := by rw [← e]; exact hj
          rw [e, zz_cs_eq, hh1 j hj2, if_pos (Nat.lt_succ_self p), otg]
          by_cases e3 : gg A p j = 65 + u
          · rw [if_pos e3, if_pos ⟨h19, e3⟩]
          · rw [if_neg e3, if_neg (fun q => e3 q.2)]
        · rw [zz_cs_ne (by omega), f2 t ht j hj]
          by_cases e2 : t < p
          · rw [if_pos e2, if_pos (by omega)]
          · rw [if_neg e2, if_neg (by omega)]
      · show Ev _ _ _ _ _ 22 [some (.ref 3), some (.int (nI w)), some (.int (nI u)), some (.int (nI b)), some (.int (nI (oc A w u p))), some (.int (nI p)), none] [.int (nI 0)] (zz_SH, I1, J) _
        refine Ev.if_eq (off := 30) (tgt := 52) (by decide +kernel) (by decide) (fun h22 => ?_) (fun h22 => absurd h22 (by decide))
        refine Ev.run [(.iinc 5 1, 3)] (pc' := 55) (L' := [some (.ref 3), some (.int (nI w)), some (.int (nI u)), some (.int (nI b)), some (.int (nI (oc A w u p))), some (.int (nI p + 1)), none]) (S' := []) rfl (by decide +kernel) rfl ?_
        rw [nI_1 p]
        refine Ev.goto (off := (-49)) (tgt := 6) (by decide +kernel) (by decide) ?_
        rw [show oc A w u p = oc A w u (p + 1) from by rw [oc, if_neg h19] <;> rfl]
        refine ih (p + 1) I1 (by omega) (by omega) f1 (fun t ht j hj => ?_)
        rw [f2 t ht j hj]
        by_cases e : t = p
        · rw [if_neg (by omega), if_pos (by omega), e, otg_0 (by omega)]
        · by_cases e2 : t < p
          · rw [if_pos e2, if_pos (by omega)]
          · rw [if_neg e2, if_neg (by omega)]

set_option maxRecDepth 100000 in
set_option maxHeartbeats 4000000 in
theorem c_X5_change {sc : Nat × (Nat → Int32)} {d : Nat} (I : Nat → Nat → Int32) (J : Nat → Nat → Int64) (A : zA) (hC : CR 3 I A) (hW : WF A) (w u b : Nat) (hw : w < 16) (hu : u < 16) (hb : b < 16) : EvM sc (d + 3) 0 0 mX5_change [.ref 3, .int (nI w), .int (nI u), .int (nI b)] (zz_SH, I, J) (fun r σ => r = some (.int (nI (oc A w u (aN A)))) ∧ ∃ I' : Nat → Nat → Int32, CR 3 I' (setG A (otg A w u b)) ∧ (∀ c, (∀ t, t < 12 → c ≠ 38 + 4 * t + 1) → I' c = I c) ∧ σ = (zz_SH, I', J)) := by
  have w1 := hW.1.1
  have w2 := hW.1.2.1
  refine EvM.of (by decide) rfl (Nat.le_of_ble_eq_true rfl) ?_
  show Ev _ _ _ _ _ 0 [some (.ref 3), some (.int (nI w)), some (.int (nI u)), some (.int (nI b)), none, none, none] [] (zz_SH, I, J) _
  refine Ev.run [(.iconst 0, 1), (.istore 4, 2), (.iconst 0, 1), (.istore 5, 2)] (pc' := 6) (L' := [some (.ref 3), some (.int (nI w)), some (.int (nI u)), some (.int (nI b)), some (.int (nI 0)), some (.int (nI 0)), none]) (S' := []) rfl (by decide +kernel) rfl ?_
  exact l_X5_change I J A hC hW w u b hw hu hb (aN A + 1) 0 I (by omega) (by omega) (fun _ _ => rfl) (fun t ht j hj => by rw [if_neg (Nat.not_lt_zero t)]; exact (hC.1.2.1 t ht).2.2.2 j hj)

set_option maxRecDepth 100000 in
set_option maxHeartbeats 4000000 in
theorem c_X6_otherwise_u {sc : Nat × (Nat → Int32)} {d : Nat} (I : Nat → Nat → Int32) (J : Nat → Nat → Int64) (x y z : Int32) (hx : ¬ (zz_ix x 16 ∧ zz_ix y 16 ∧ zz_ix z 16)) : EvM sc (d + 4) 0 0 mX6_otherwise [.ref 0, .int x, .int y, .int z] (zz_SH, I, J) (zz_is (.int (-1)) (zz_SH, I, J)) := by
  refine EvM.of (by decide) rfl (Nat.le_of_ble_eq_true rfl) ?_
  show Ev _ _ _ _ _ 0 [some (.ref 0), some (.int x), some (.int y), some (.int z)] [] (zz_SH, I, J) _
  refine Ev.run [(.iload_n 1, 1)] (pc' := 1) (L' := [some (.ref 0), some (.int x), some (.int y), some (.int z)]) (S' := [.int x]) rfl (by decide +kernel) rfl ?_
  refine Ev.callS0 mX6_isWord [.int x] [] _ rfl lk_RX6_167 (by decide +kernel) rfl (Nat.le_of_ble_eq_true rfl) (c_X6_isWord I J x) ?_
  rintro _ _ ⟨rfl, ⟨rfl, h1⟩ | ⟨rfl, h1⟩⟩
  · show Ev _ _ _ _ _ 4 [some (.ref 0), some (.int x), some (.int y), some (.int z)] [.int (nI 1)] (zz_SH, I, J) _
    refine Ev.if_eq (off := 17) (tgt := 21) (by decide +kernel) (by decide) (fun h4 => absurd h4 (by decide)) (fun h4 => ?_)
    refine Ev.run [(.iload_n 2, 1)] (pc' := 8) (L' := [some (.ref 0), some (.int x), some (.int y), some (.int z)]) (S' := [.int y]) rfl (by decide +kernel) rfl ?_
    refine Ev.callS0 mX6_isWord [.int y] [] _ rfl lk_RX6_167 (by decide +kernel) rfl (Nat.le_of_ble_eq_true rfl) (c_X6_isWord I J y) ?_
    rintro _ _ ⟨rfl, ⟨rfl, h8⟩ | ⟨rfl, h8⟩⟩
    · show Ev _ _ _ _ _ 11 [some (.ref 0), some (.int x), some (.int y), some (.int z)] [.int (nI 1)] (zz_SH, I, J) _
      refine Ev.if_eq (off := 10) (tgt := 21) (by decide +kernel) (by decide) (fun h11 => absurd h11 (by decide)) (fun h11 => ?_)
      refine Ev.run [(.iload_n 3, 1)] (pc' := 15) (L' := [some (.ref 0), some (.int x), some (.int y), some (.int z)]) (S' := [.int z]) rfl (by decide +kernel) rfl ?_
      refine Ev.callS0 mX6_isWord [.int z] [] _ rfl lk_RX6_167 (by decide +kernel) rfl (Nat.le_of_ble_eq_true rfl) (c_X6_isWord I J z) ?_
      rintro _ _ ⟨rfl, ⟨rfl, h15⟩ | ⟨rfl, h15⟩⟩
      · exact absurd ⟨h1, h8, h15⟩ hx
      · show Ev _ _ _ _ _ 18 [some (.ref 0), some (.int x), some (.int y), some (.int z)] [.int (nI 0)] (zz_SH, I, J) _
        refine Ev.if_ne (off := 5) (tgt := 23) (by decide +kernel) (by decide) (fun h18 => absurd h18 (by decide)) (fun h18 => ?_)
        refine Ev.run [(.iconst (-1), 1)] (pc' := 22) (L' := [some (.ref 0), some (.int x), some (.int y), some (.int z)]) (S' := [.int ((-1))]) rfl (by decide +kernel) rfl ?_
        exact Ev.iret rfl (by decide +kernel) (⟨rfl, rfl⟩)
    · show Ev _ _ _ _ _ 11 [some (.ref 0), some (.int x), some (.int y), some (.int z)] [.int (nI 0)] (zz_SH, I, J) _
      refine Ev.if_eq (off := 10) (tgt := 21) (by decide +kernel) (by decide) (fun h11 => ?_) (fun h11 => absurd h11 (by decide))
      refine Ev.run [(.iconst (-1), 1)] (pc' := 22) (L' := [some (.ref 0), some (.int x), some (.int y), some (.int z)]) (S' := [.int ((-1))]) rfl (by decide +kernel) rfl ?_
      exact Ev.iret rfl (by decide +kernel) (⟨rfl, rfl⟩)
  · show Ev _ _ _ _ _ 4 [some (.ref 0), some (.int x), some (.int y), some (.int z)] [.int (nI 0)] (zz_SH, I, J) _
    refine Ev.if_eq (off := 17) (tgt := 21) (by decide +kernel) (by decide) (fun h4 => ?_) (fun h4 => absurd h4 (by decide))
    refine Ev.run [(.iconst (-1), 1)] (pc' := 22) (L' := [some (.ref 0), some (.int x), some (.int y), some (.int z)]) (S' := [.int ((-1))]) rfl (by decide +kernel) rfl ?_
    exact Ev.iret rfl (by decide +kernel) (⟨rfl, rfl⟩)

set_option maxRecDepth 100000 in
set_option maxHeartbeats 4000000 in
theorem c_X6_otherwise_e {sc : Nat × (Nat → Int32)} {d : Nat} (I : Nat → Nat → Int32) (J : Nat → Nat → Int64) (A : zA) (hC : CR 3 I A) (hW : WF A) (w u b : Nat) (hw : w < 16) (hu : u < 16) (hb : b < 16) (hub : u = b) : EvM sc (d + 4) 0 0 mX6_otherwise [.ref 0, .int (nI w), .int (nI u), .int (nI b)] (zz_SH, I, J) (zz_is (.int (nI 0)) (zz_SH, I, J)) := by
  refine EvM.of (by decide) rfl (Nat.le_of_ble_eq_true rfl) ?_
  show Ev _ _ _ _ _ 0 [some (.ref 0), some (.int (nI w)), some (.int (nI u)), some (.int (nI b))] [] (zz_SH, I, J) _
  refine Ev.run [(.iload_n 1, 1)] (pc' := 1) (L' := [some (.ref 0), some (.int (nI w)), some (.int (nI u)), some (.int (nI b))]) (S' := [.int (nI w)]) rfl (by decide +kernel) rfl ?_
  refine Ev.callS0 mX6_isWord [.int (nI w)] [] _ rfl lk_RX6_167 (by decide +kernel) rfl (Nat.le_of_ble_eq_true rfl) (c_X6_isWord I J (nI w)) ?_
  rintro _ _ ⟨rfl, ⟨rfl, h1⟩ | ⟨rfl, h1⟩⟩
  · show Ev _ _ _ _ _ 4 [some (.ref 0), some (.int (nI w)), some (.int (nI u)), some (.int (nI b))] [.int (nI 1)] (zz_SH, I, J) _
    refine Ev.if_eq (off := 17) (tgt := 21) (by decide +kernel) (by decide) (fun h4 => absurd h4 (by decide)) (fun h4 => ?_)
    refine Ev.run [(.iload_n 2, 1)] (pc' := 8) (L' := [some (.ref 0), some (.int (nI w)), some (.int (nI u)), some (.int (nI b))]) (S' := [.int (nI u)]) rfl (by decide +kernel) rfl ?_
    refine Ev.callS0 mX6_isWord [.int (nI u)] [] _ rfl lk_RX6_167 (by decide +kernel) rfl (Nat.le_of_ble_eq_true rfl) (c_X6_isWord I J (nI u)) ?_
    rintro _ _ ⟨rfl, ⟨rfl, h8⟩ | ⟨rfl, h8⟩⟩
    · show Ev _ _ _ _ _ 11 [some (.ref 0), some (.int (nI w)), some (.int (nI u)), some (.int (nI b))] [.int (nI 1)] (zz_SH, I, J) _
      refine Ev.if_eq (off := 10) (tgt := 21) (by decide +kernel) (by decide) (fun h11 => absurd h11 (by decide)) (fun h11 => ?_)
      refine Ev.run [(.iload_n 3, 1)] (pc' := 15) (L' := [some (.ref 0), some (.int (nI w)), some (.int (nI u)), some (.int (nI b))]) (S' := [.int (nI b)]) rfl (by decide +kernel) rfl ?_
      refine Ev.callS0 mX6_isWord [.int (nI b)] [] _ rfl lk_RX6_167 (by decide +kernel) rfl (Nat.le_of_ble_eq_true rfl) (c_X6_isWord I J (nI b)) ?_
      rintro _ _ ⟨rfl, ⟨rfl, h15⟩ | ⟨rfl, h15⟩⟩
      · show Ev _ _ _ _ _ 18 [some (.ref 0), some (.int (nI w)), some (.int (nI u)), some (.int (nI b))] [.int (nI 1)] (zz_SH, I, J) _
        refine Ev.if_ne (off := 5) (tgt := 23) (by decide +kernel) (by decide) (fun h18 => ?_) (fun h18 => absurd h18 (by decide))
        refine Ev.run [(.iload_n 2, 1), (.iload_n 3, 1)] (pc' := 25) (L' := [some (.ref 0), some (.int (nI w)), some (.int (nI u)), some (.int (nI b))]) (S' := [.int (nI b), .int (nI u)]) rfl (by decide +kernel) rfl ?_
        refine Ev.icmp_ne (off := 7) (tgt := 32) (by decide +kernel) (by decide) (fun h25 => ?_) (fun h25 => ?_)
        · have h25 : ¬ u = b := zz_bE_f (by omega) (by omega) h25
          exfalso; omega
        · have h25 : u = b := zz_bE_t (by omega) (by omega) h25
          refine Ev.run [(.iconst 0, 1)] (pc' := 29) (L' := [some (.ref 0), some (.int (nI w)), some (.int (nI u)), some (.int (nI b))]) (S' := [.int (nI 0)]) rfl (by decide +kernel) rfl ?_
          refine Ev.goto (off := 13) (tgt := 42) (by decide +kernel) (by decide) ?_
          exact Ev.iret rfl (by decide +kernel) (⟨rfl, rfl⟩)
      · exact absurd ⟨b, hb, rfl⟩ h15
    · exact absurd ⟨u, hu, rfl⟩ h8
  · exact absurd ⟨w, hw, rfl⟩ h1

set_option maxRecDepth 100000 in
set_option maxHeartbeats 4000000 in
theorem c_X6_otherwise_k {sc : Nat × (Nat → Int32)} {d : Nat} (I : Nat → Nat → Int32) (J : Nat → Nat → Int64) (A : zA) (hC : CR 3 I A) (hW : WF A) (w u b : Nat) (hw : w < 16) (hu : u < 16) (hb : b < 16) (hub : ¬ u = b) : EvM sc (d + 4) 0 0 mX6_otherwise [.ref 0, .int (nI w), .int (nI u), .int (nI b)] (zz_SH, I, J) (fun r σ => r = some (.int (nI (oc A w u (aN A)))) ∧ ∃ I' : Nat → Nat → Int32, CR 3 I' (setG A (otg A w u b)) ∧ (∀ c, (∀ t, t < 12 → c ≠ 38 + 4 * t + 1) → I' c = I c) ∧ σ = (zz_SH, I', J)) := by
  refine EvM.of (by decide) rfl (Nat.le_of_ble_eq_true rfl) ?_
  show Ev _ _ _ _ _ 0 [some (.ref 0), some (.int (nI w)), some (.int (nI u)), some (.int (nI b))] [] (zz_SH, I, J) _
  refine Ev.run [(.iload_n 1, 1)] (pc' := 1) (L' := [some (.ref 0), some (.int (nI w)), some (.int (nI u)), some (.int (nI b))]) (S' := [.int (nI w)]) rfl (by decide +kernel) rfl ?_
  refine Ev.callS0 mX6_isWord [.int (nI w)] [] _ rfl lk_RX6_167 (by decide +kernel) rfl (Nat.le_of_ble_eq_true rfl) (c_X6_isWord I J (nI w)) ?_
  rintro _ _ ⟨rfl, ⟨rfl, h1⟩ | ⟨rfl, h1⟩⟩
  · show Ev _ _ _ _ _ 4 [some (.ref 0), some (.int (nI w)), some (.int (nI u)), some (.int (nI b))] [.int (nI 1)] (zz_SH, I, J) _
    refine Ev.if_eq (off := 17) (tgt := 21) (by decide +kernel) (by decide) (fun h4 => absurd h4 (by decide)) (fun h4 => ?_)
    refine Ev.run [(.iload_n 2, 1)] (pc' := 8) (L' := [some (.ref 0), some (.int (nI w)), some (.int (nI u)), some (.int (nI b))]) (S' := [.int (nI u)]) rfl (by decide +kernel) rfl ?_
    refine Ev.callS0 mX6_isWord [.int (nI u)] [] _ rfl lk_RX6_167 (by decide +kernel) rfl (Nat.le_of_ble_eq_true rfl) (c_X6_isWord I J (nI u)) ?_
    rintro _ _ ⟨rfl, ⟨rfl, h8⟩ | ⟨rfl, h8⟩⟩
    · show Ev _ _ _ _ _ 11 [some (.ref 0), some (.int (nI w)), some (.int (nI u)), some (.int (nI b))] [.int (nI 1)] (zz_SH, I, J) _
      refine Ev.if_eq (off := 10) (tgt := 21) (by decide +kernel) (by decide) (fun h11 => absurd h11 (by decide)) (fun h11 => ?_)
      refine Ev.run [(.iload_n 3, 1)] (pc' := 15) (L' := [some (.ref 0), some (.int (nI w)), some (.int (nI u)), some (.int (nI b))]) (S' := [.int (nI b)]) rfl (by decide +kernel) rfl ?_
      refine Ev.callS0 mX6_isWord [.int (nI b)] [] _ rfl lk_RX6_167 (by decide +kernel) rfl (Nat.le_of_ble_eq_true rfl) (c_X6_isWord I J (nI b)) ?_
      rintro _ _ ⟨rfl, ⟨rfl, h15⟩ | ⟨rfl, h15⟩⟩
      · show Ev _ _ _ _ _ 18 [some (.ref 0), some (.int (nI w)), some (.int (nI u)), some (.int (nI b))] [.int (nI 1)] (zz_SH, I, J) _
        refine Ev.if_ne (off := 5) (tgt := 23) (by decide +kernel) (by decide) (fun h18 => ?_) (fun h18 => absurd h18 (by decide))
        refine Ev.run [(.iload_n 2, 1), (.iload_n 3, 1)] (pc' := 25) (L' := [some (.ref 0), some (.int (nI w)), some (.int (nI u)), some (.int (nI b))]) (S' := [.int (nI b), .int (nI u)]) rfl (by decide +kernel) rfl ?_
        refine Ev.icmp_ne (off := 7) (tgt := 32) (by decide +kernel) (by decide) (fun h25 => ?_) (fun h25 => ?_)
        · have h25 : ¬ u = b := zz_bE_f (by omega) (by omega) h25
          refine Ev.run [(.aload_n 0, 1), (.getfield 21, 3), (.iload_n 1, 1), (.iload_n 2, 1), (.iload_n 3, 1)] (pc' := 39) (L' := [some (.ref 0), some (.int (nI w)), some (.int (nI u)), some (.int (nI b))]) (S' := [.int (nI b), .int (nI u), .int (nI w), .ref 3]) rfl (by decide +kernel) rfl ?_
          refine Ev.callS0 mX5_change [.ref 3, .int (nI w), .int (nI u), .int (nI b)] [] _ rfl lk_RX6_196 (by decide +kernel) rfl (Nat.le_of_ble_eq_true rfl) (c_X5_change I J A hC hW w u b hw hu hb) ?_
          rintro _ _ ⟨rfl, I1, q1, q2, rfl⟩
          show Ev _ _ _ _ _ 42 [some (.ref 0), some (.int (nI w)), some (.int (nI u)), some (.int (nI b))] [.int (nI (oc A w u (aN A)))] (zz_SH, I1, J) _
          exact Ev.iret rfl (by decide +kernel) (⟨rfl, I1, q1, q2, rfl⟩)
        · have h25 : u = b := zz_bE_t (by omega) (by omega) h25
          exfalso; omega
      · exact absurd ⟨b, hb, rfl⟩ h15
    · exact absurd ⟨u, hu, rfl⟩ h8
  · exact absurd ⟨w, hw, rfl⟩ h1
