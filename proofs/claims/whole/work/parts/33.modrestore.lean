/-! ===== the model: restore ===== -/
def cnn (c : Nat) : Nat := ([0, 361, 362, 363, 364, 365, 366, 367, 368, 369, 371] : List Nat).getD c 0
theorem zVm_c (I : Nat → Nat → Int32) {c : Nat} (h1 : 1 ≤ c) (h2 : c < 11) : zVm I c = I (cnn c) := by
  match c, h1, h2 with
  | 1, _, _ => rfl
  | 2, _, _ => rfl
  | 3, _, _ => rfl
  | 4, _, _ => rfl
  | 5, _, _ => rfl
  | 6, _, _ => rfl
  | 7, _, _ => rfl
  | 8, _, _ => rfl
  | 9, _, _ => rfl
  | 10, _, _ => rfl
theorem cnn_b : ∀ c, 1 ≤ c → c < 11 → 361 ≤ cnn c ∧ cnn c ≤ 371 ∧ cnn c ≠ 370 := by
  have h : ∀ c, c < 11 → 1 ≤ c → 361 ≤ cnn c ∧ cnn c ≤ 371 ∧ cnn c ≠ 370 := by decide
  exact fun c h1 h2 => h c h2 h1
theorem cnn_inj : ∀ c, 1 ≤ c → c < 11 → ∀ e, 1 ≤ e → e < 11 → cnn c = cnn e → c = e := by
  have h : ∀ c, c < 11 → ∀ e, e < 11 → 1 ≤ c → 1 ≤ e → cnn c = cnn e → c = e := by decide
  intro c h1 h2 e h3 h4 h5
  exact h c h2 e h4 h1 h3 h5
def RS (I : Nat → Nat → Int32) (n : Nat) (I1 : Nat → Nat → Int32) (D : Nat → Nat → Prop) : Prop := (∀ c, (c < 359 ∨ c = 360 ∨ 372 ≤ c) → I1 c = I c) ∧ (∀ j, j ≠ 2 → j ≠ 8 → I1 359 j = I 359 j) ∧ ∀ c, c < 11 → ∀ j, j < lnn c → D c j → zVm I1 c j = zVi I n c j
theorem RS.wk {I I1 : Nat → Nat → Int32} {n : Nat} {D D' : Nat → Nat → Prop} (H : RS I n I1 D) (hd : ∀ c, c < 11 → ∀ j, j < lnn c → D' c j → D c j) : RS I n I1 D' := ⟨H.1, H.2.1, fun c hc j hj h9 => H.2.2 c hc j hj (hd c hc j hj h9)⟩
theorem RS.up {I I1 : Nat → Nat → Int32} {n : Nat} {D : Nat → Nat → Prop} (H : RS I n I1 D) (e k x : Nat) (he1 : 1 ≤ e) (he : e < 11) (hx : x = cnn e) {v : Int32} (hv : v = zVi I n e k) : RS I n (zz_up I1 x k v) (fun c j => D c j ∨ (c = e ∧ j = k)) := by
  subst hx
  subst hv
  have hb := cnn_b e he1 he
  refine ⟨fun c hc => by rw [zz_up_ne (by omega)]; exact H.1 c hc, fun j h1 h2 => by rw [zz_up_ne (by omega)]; exact H.2.1 j h1 h2, fun c hc j hj hd => ?_⟩
  by_cases h0 : c = 0
  · subst h0
    have h9 := H.2.2 0 hc j hj (hd.resolve_right (fun q => by omega))
    rw [← h9]
    match j with
    | 0 => exact congrFun (zz_up_ne (show 359 ≠ cnn e by omega)) 2
    | 1 => exact congrFun (zz_up_ne (show 359 ≠ cnn e by omega)) 8
    | 2 => exact congrFun (zz_up_ne (show 370 ≠ cnn e by omega)) 0
    | _ + 3 => exact congrFun (zz_up_ne (show 370 ≠ cnn e by omega)) 1
  · rw [zVm_c _ (by omega) hc]
    by_cases q : c = e
    · subst q
      rw [zz_up_eq]
      by_cases q2 : j = k
      · rw [q2, zz_ups]
      · rw [zz_upn q2, ← zVm_c I1 (by omega) hc]
        exact H.2.2 c hc j hj (hd.resolve_right (fun z => q2 z.2))
    · rw [zz_up_ne (fun z => q (cnn_inj c (by omega) hc e he1 he z)), ← zVm_c I1 (by omega) hc]
      exact H.2.2 c hc j hj (hd.resolve_right (fun z => q z.1))
theorem RS.u0 {I I1 : Nat → Nat → Int32} {n : Nat} {D : Nat → Nat → Prop} (H : RS I n I1 D) (x y k : Nat) (hk : (x = 359 ∧ y = 2 ∧ k = 0) ∨ (x = 359 ∧ y = 8 ∧ k = 1) ∨ (x = 370 ∧ y = 0 ∧ k = 2) ∨ (x = 370 ∧ y = 1 ∧ k = 3)) {v : Int32} (hv : v = zVi I n 0 k) : RS I n (zz_up I1 x y v) (fun c j => D c j ∨ (c = 0 ∧ j = k)) := by
  subst hv
  refine ⟨fun c hc => by rw [zz_up_ne (by omega)]; exact H.1 c hc, fun j h1 h2 => ?_, fun c hc j hj hd => ?_⟩
  · rcases hk with ⟨rfl, rfl, rfl⟩ | ⟨rfl, rfl, rfl⟩ | ⟨rfl, rfl, rfl⟩ | ⟨rfl, rfl, rfl⟩
    · rw [zz_up_eq, zz_upn h1]; exact H.2.1 j h1 h2
    · rw [zz_up_eq, zz_upn h2]; exact H.2.1 j h1 h2
    · rw [zz_up_ne (by decide)]; exact H.2.1 j h1 h2
    · rw [zz_up_ne (by decide)]; exact H.2.1 j h1 h2
  · by_cases h0 : c = 0
    · subst h0
      have hj4 : j < 4 := hj
      have H9 := H.2.2 0 hc j hj
      rcases hk with ⟨rfl, rfl, rfl⟩ | ⟨rfl, rfl, rfl⟩ | ⟨rfl, rfl, rfl⟩ | ⟨rfl, rfl, rfl⟩
      · match j, hj4 with
        | 0, _ =>
          show zz_up I1 359 2 _ 359 2 = _
          rw [zz_up_eq, zz_ups]
        | 1, _ =>
          rw [← H9 (hd.resolve_right (fun q => absurd q.2 (by decide)))]
          show zz_up I1 359 2 _ 359 8 = I1 359 8
          rw [zz_up_eq, zz_upn (by decide)]
        | 2, _ =>
          rw [← H9 (hd.resolve_right (fun q => absurd q.2 (by decide)))]
          show zz_up I1 359 2 _ 370 0 = I1 370 0
          rw [zz_up_ne (by decide)]
        | 3, _ =>
          rw [← H9 (hd.resolve_right (fun q => absurd q.2 (by decide)))]
          show zz_up I1 359 2 _ 370 1 = I1 370 1
          rw [zz_up_ne (by decide)]
      · match j, hj4 with
        | 0, _ =>
          rw [← H9 (hd.resolve_right (fun q => absurd q.2 (by decide)))]
          show zz_up I1 359 8 _ 359 2 = I1 359 2
          rw [zz_up_eq, zz_upn (by decide)]
        | 1, _ =>
          show zz_up I1 359 8 _ 359 8 = _
          rw [zz_up_eq, zz_ups]
        | 2, _ =>
          rw [← H9 (hd.resolve_right (fun q => absurd q.2 (by decide)))]
          show zz_up I1 359 8 _ 370 0 = I1 370 0
          rw [zz_up_ne (by decide)]
        | 3, _ =>
          rw [← H9 (hd.resolve_right (fun q => absurd q.2 (by decide)))]
          show zz_up I1 359 8 _ 370 1 = I1 370 1
          rw [zz_up_ne (by decide)]
      · match j, hj4 with
        | 0, _ =>
          rw [← H9 (hd.resolve_right (fun q => absurd q.2 (by decide)))]
          show zz_up I1 370 0 _ 359 2 = I1 359 2
          rw [zz_up_ne (by decide)]
        | 1, _ =>
          rw [← H9 (hd.resolve_right (fun q => absurd q.2 (by decide)))]
          show zz_up I1 370 0 _ 359 8 = I1 359 8
          rw [zz_up_ne (by decide)]
        | 2, _ =>
          show zz_up I1 370 0 _ 370 0 = _
          rw [zz_up_eq, zz_ups]
        | 3, _ =>
          rw [← H9 (hd.resolve_right (fun q => absurd q.2 (by decide)))]
          show zz_up I1 370 0 _ 370 1 = I1 370 1
          rw [zz_up_eq, zz_upn (by decide)]
      · match j, hj4 with
        | 0, _ =>
          rw [← H9 (hd.resolve_right (fun q => absurd q.2 (by decide)))]
          show zz_up I1 370 1 _ 359 2 = I1 359 2
          rw [zz_up_ne (by decide)]
        | 1, _ =>
          rw [← H9 (hd.resolve_right (fun q => absurd q.2 (by decide)))]
          show zz_up I1 370 1 _ 359 8 = I1 359 8
          rw [zz_up_ne (by decide)]
        | 2, _ =>
          rw [← H9 (hd.resolve_right (fun q => absurd q.2 (by decide)))]
          show zz_up I1 370 1 _ 370 0 = I1 370 0
          rw [zz_up_eq, zz_upn (by decide)]
        | 3, _ =>
          show zz_up I1 370 1 _ 370 1 = _
          rw [zz_up_eq, zz_ups]
    · have hb := cnn_b c (by omega) hc
      rw [zVm_c _ (by omega) hc, zz_up_ne (by omega), ← zVm_c I1 (by omega) hc]
      exact H.2.2 c hc j hj (hd.resolve_right (fun z => h0 z.1))

set_option maxRecDepth 100000 in
set_option maxHeartbeats 4000000 in
theorem l_X7_rs6 {sc : Nat × (Nat → Int32)} {d : Nat} (I : Nat → Nat → Int32) (J : Nat → Nat → Int64) (n : Nat) (hn : n < 2) : ∀ (μ : Nat) (k : Nat) (I1 : Nat → Nat → Int32), 24 - k < μ → (k ≤ 24) → (RS I n I1 (dnp 10 11 k)) →  Ev sc (d + 1) 0 0 mX7_restore 323 [some (.ref 359), some (.int (nI n)), some (.int (nI (520 * n))), some (.int (nI k))] [] (zz_SH, I1, J) (fun r σ => r = some (.int (nI 1)) ∧ ∃ I' : Nat → Nat → Int32, RS I n I' (fun _ _ => True) ∧ σ = (zz_SH, I', J)) := by
  intro μ
  induction μ with
  | zero => intro k I1 hμ; exact absurd hμ (Nat.not_lt_zero _)
  | succ μ ih =>
    intro k I1 hμ hk H
    refine Ev.run [(.iload_n 3, 1), (.bipush 24, 2)] (pc' := 326) (L' := [some (.ref 359), some (.int (nI n)), some (.int (nI (520 * n))), some (.int (nI k))]) (S' := [.int (nI 24), .int (nI k)]) rfl (by decide +kernel) rfl ?_
    refine Ev.icmp_ge (off := 27) (tgt := 353) (by decide +kernel) (by decide) (fun h326 => ?_) (fun h326 => ?_)
    · have h326 : k ≥ 24 := zz_bG_t (by omega) (by omega) h326
      refine Ev.run [(.iconst 1, 1)] (pc' := 354) (L' := [some (.ref 359), some (.int (nI n)), some (.int (nI (520 * n))), some (.int (nI k))]) (S' := [.int (nI 1)]) rfl (by decide +kernel) rfl ?_
      exact Ev.iret rfl (by decide +kernel) (⟨rfl, I1, RS.wk H (fun c hc j hj q => by rcases Nat.lt_or_ge c 10 with z | z; exact Or.inl z; exact Or.inr ⟨by omega, by have z9 : lnn c = 24 := (by rw [show c = 10 by omega]; rfl); omega⟩), rfl⟩)
    · have h326 : k < 24 := zz_bG_f (by omega) (by omega) h326
      refine Ev.run [(.aload_n 0, 1), (.getfield 43, 3), (.iload_n 3, 1), (.aload_n 0, 1), (.getfield 68, 3), (.iload_n 2, 1), (.sipush 479, 3), (.iadd, 1)] (pc' := 343) (L' := [some (.ref 359), some (.int (nI n)), some (.int (nI (520 * n))), some (.int (nI k))]) (S' := [.int (nI (520 * n) + nI 479), .ref 379, .int (nI k), .ref 371]) rfl (by decide +kernel) rfl ?_
      rw [nI_add (520 * n) 479]
      refine Ev.run [(.iload_n 3, 1), (.iadd, 1)] (pc' := 345) (L' := [some (.ref 359), some (.int (nI n)), some (.int (nI (520 * n))), some (.int (nI k))]) (S' := [.int (nI ((520 * n) + 479) + nI k), .ref 379, .int (nI k), .ref 371]) rfl (by decide +kernel) rfl ?_
      rw [nI_add ((520 * n) + 479) k]
      refine Ev.iald (((520 * n) + 479) + k) (by decide +kernel) (rfl) (rfl) (by omega) (by first | decide | omega) ?_
      dsimp only
      rw [show I1 379 (((520 * n) + 479) + k) = I 379 (((520 * n) + 479) + k) from by rw [H.1 379 (by decide)]]
      refine Ev.iast k (by decide +kernel) (rfl) (rfl) (by omega) (by first | decide | omega) ?_
      dsimp only
      have Ra := H.up 10 k 371 (by decide) (by decide) rfl (v := I 379 (((520 * n) + 479) + k)) rfl
      generalize zz_up I1 371 k (I 379 (((520 * n) + 479) + k)) = Ia at Ra ⊢
      refine Ev.run [(.iinc 3 1, 3)] (pc' := 350) (L' := [some (.ref 359), some (.int (nI n)), some (.int (nI (520 * n))), some (.int (nI k + 1))]) (S' := []) rfl (by decide +kernel) rfl ?_
      rw [nI_1 k]
      refine Ev.goto (off := (-27)) (tgt := 323) (by decide +kernel) (by decide) ?_
      refine ih (k + 1) Ia (by omega) (by omega) (RS.wk Ra (fun c hc j hj q => ?_))
      simp only [dnp] at q ⊢
      omega

set_option maxRecDepth 100000 in
set_option maxHeartbeats 4000000 in
theorem l_X7_rs5 {sc : Nat × (Nat → Int32)} {d : Nat} (I : Nat → Nat → Int32) (J : Nat → Nat → Int64) (n : Nat) (hn : n < 2) : ∀ (μ : Nat) (k : Nat) (I1 : Nat → Nat → Int32), 16 - k < μ → (k ≤ 16) → (RS I n I1 (dnp 9 10 k)) →  Ev sc (d + 1) 0 0 mX7_restore 291 [some (.ref 359), some (.int (nI n)), some (.int (nI (520 * n))), some (.int (nI k))] [] (zz_SH, I1, J) (fun r σ => r = some (.int (nI 1)) ∧ ∃ I' : Nat → Nat → Int32, RS I n I' (fun _ _ => True) ∧ σ = (zz_SH, I', J)) := by
  intro μ
  induction μ with
  | zero => intro k I1 hμ; exact absurd hμ (Nat.not_lt_zero _)
  | succ μ ih =>
    intro k I1 hμ hk H
    refine Ev.run [(.iload_n 3, 1), (.bipush 16, 2)] (pc' := 294) (L' := [some (.ref 359), some (.int (nI n)), some (.int (nI (520 * n))), some (.int (nI k))]) (S' := [.int (nI 16), .int (nI k)]) rfl (by decide +kernel) rfl ?_
    refine Ev.icmp_ge (off := 27) (tgt := 321) (by decide +kernel) (by decide) (fun h294 => ?_) (fun h294 => ?_)
    · have h294 : k ≥ 16 := zz_bG_t (by omega) (by omega) h294
      refine Ev.run [(.iconst 0, 1), (.istore_n 3, 1)] (pc' := 323) (L' := [some (.ref 359), some (.int (nI n)), some (.int (nI (520 * n))), some (.int (nI 0))]) (S' := []) rfl (by decide +kernel) rfl ?_
      refine l_X7_rs6 I J n hn 25 0 I1 (by omega) (by omega) (RS.wk H (fun c hc j hj q => ?_))
      simp only [dnp] at q ⊢
      rcases Nat.lt_or_ge c 9 with z | z
      · exact Or.inl z
      · have z9 : lnn c = 16 := by rw [show c = 9 by omega]; rfl
        exact Or.inr ⟨by omega, by omega⟩
    · have h294 : k < 16 := zz_bG_f (by omega) (by omega) h294
      refine Ev.run [(.aload_n 0, 1), (.getfield 37, 3), (.iload_n 3, 1), (.aload_n 0, 1), (.getfield 68, 3), (.iload_n 2, 1), (.sipush 463, 3), (.iadd, 1)] (pc' := 311) (L' := [some (.ref 359), some (.int (nI n)), some (.int (nI (520 * n))), some (.int (nI k))]) (S' := [.int (nI (520 * n) + nI 463), .ref 379, .int (nI k), .ref 369]) rfl (by decide +kernel) rfl ?_
      rw [nI_add (520 * n) 463]
      refine Ev.run [(.iload_n 3, 1), (.iadd, 1)] (pc' := 313) (L' := [some (.ref 359), some (.int (nI n)), some (.int (nI (520 * n))), some (.int (nI k))]) (S' := [.int (nI ((520 * n) + 463) + nI k), .ref 379, .int (nI k), .ref 369]) rfl (by decide +kernel) rfl ?_
      rw [nI_add ((520 * n) + 463) k]
      refine Ev.iald (((520 * n) + 463) + k) (by decide +kernel) (rfl) (rfl) (by omega) (by first | decide | omega) ?_
      dsimp only
      rw [show I1 379 (((520 * n) + 463) + k) = I 379 (((520 * n) + 463) + k) from by rw [H.1 379 (by decide)]]
      refine Ev.iast k (by decide +kernel) (rfl) (rfl) (by omega) (by first | decide | omega) ?_
      dsimp only
      have Ra := H.up 9 k 369 (by decide) (by decide) rfl (v := I 379 (((520 * n) + 463) + k)) rfl
      generalize zz_up I1 369 k (I 379 (((520 * n) + 463) + k)) = Ia at Ra ⊢
      refine Ev.run [(.iinc 3 1, 3)] (pc' := 318) (L' := [some (.ref 359), some (.int (nI n)), some (.int (nI (520 * n))), some (.int (nI k + 1))]) (S' := []) rfl (by decide +kernel) rfl ?_
      rw [nI_1 k]
      refine Ev.goto (off := (-27)) (tgt := 291) (by decide +kernel) (by decide) ?_
      refine ih (k + 1) Ia (by omega) (by omega) (RS.wk Ra (fun c hc j hj q => ?_))
      simp only [dnp] at q ⊢
      omega

set_option maxRecDepth 100000 in
set_option maxHeartbeats 4000000 in
theorem l_X7_rs4 {sc : Nat × (Nat → Int32)} {d : Nat} (I : Nat → Nat → Int32) (J : Nat → Nat → Int64) (n : Nat) (hn : n < 2) : ∀ (μ : Nat) (k : Nat) (I1 : Nat → Nat → Int32), 5 - k < μ → (k ≤ 5) → (RS I n I1 (dnp 8 9 k)) →  Ev sc (d + 1) 0 0 mX7_restore 260 [some (.ref 359), some (.int (nI n)), some (.int (nI (520 * n))), some (.int (nI k))] [] (zz_SH, I1, J) (fun r σ => r = some (.int (nI 1)) ∧ ∃ I' : Nat → Nat → Int32, RS I n I' (fun _ _ => True) ∧ σ = (zz_SH, I', J)) := by
  intro μ
  induction μ with
  | zero => intro k I1 hμ; exact absurd hμ (Nat.not_lt_zero _)
  | succ μ ih =>
    intro k I1 hμ hk H
    refine Ev.run [(.iload_n 3, 1), (.iconst 5, 1)] (pc' := 262) (L' := [some (.ref 359), some (.int (nI n)), some (.int (nI (520 * n))), some (.int (nI k))]) (S' := [.int (nI 5), .int (nI k)]) rfl (by decide +kernel) rfl ?_
    refine Ev.icmp_ge (off := 27) (tgt := 289) (by decide +kernel) (by decide) (fun h262 => ?_) (fun h262 => ?_)
    · have h262 : k ≥ 5 := zz_bG_t (by omega) (by omega) h262
      refine Ev.run [(.iconst 0, 1), (.istore_n 3, 1)] (pc' := 291) (L' := [some (.ref 359), some (.int (nI n)), some (.int (nI (520 * n))), some (.int (nI 0))]) (S' := []) rfl (by decide +kernel) rfl ?_
      refine l_X7_rs5 I J n hn 17 0 I1 (by omega) (by omega) (RS.wk H (fun c hc j hj q => ?_))
      simp only [dnp] at q ⊢
      rcases Nat.lt_or_ge c 8 with z | z
      · exact Or.inl z
      · have z9 : lnn c = 5 := by rw [show c = 8 by omega]; rfl
        exact Or.inr ⟨by omega, by omega⟩
    · have h262 : k < 5 := zz_bG_f (by omega) (by omega) h262
      refine Ev.run [(.aload_n 0, 1), (.getfield 34, 3), (.iload_n 3, 1), (.aload_n 0, 1), (.getfield 68, 3), (.iload_n 2, 1), (.sipush 458, 3), (.iadd, 1)] (pc' := 279) (L' := [some (.ref 359), some (.int (nI n)), some (.int (nI (520 * n))), some (.int (nI k))]) (S' := [.int (nI (520 * n) + nI 458), .ref 379, .int (nI k), .ref 368]) rfl (by decide +kernel) rfl ?_
      rw [nI_add (520 * n) 458]
      refine Ev.run [(.iload_n 3, 1), (.iadd, 1)] (pc' := 281) (L' := [some (.ref 359), some (.int (nI n)), some (.int (nI (520 * n))), some (.int (nI k))]) (S' := [.int (nI ((520 * n) + 458) + nI k), .ref 379, .int (nI k), .ref 368]) rfl (by decide +kernel) rfl ?_
      rw [nI_add ((520 * n) + 458) k]
      refine Ev.iald (((520 * n) + 458) + k) (by decide +kernel) (rfl) (rfl) (by omega) (by first | decide | omega) ?_
      dsimp only
      rw [show I1 379 (((520 * n) + 458) + k) = I 379 (((520 * n) + 458) + k) from by rw [H.1 379 (by decide)]]
      refine Ev.iast k (by decide +kernel) (rfl) (rfl) (by omega) (by first | decide | omega) ?_
      dsimp only
      have Ra := H.up 8 k 368 (by decide) (by decide) rfl (v := I 379 (((520 * n) + 458) + k)) rfl
      generalize zz_up I1 368 k (I 379 (((520 * n) + 458) + k)) = Ia at Ra ⊢
      refine Ev.run [(.iinc 3 1, 3)] (pc' := 286) (L' := [some (.ref 359), some (.int (nI n)), some (.int (nI (520 * n))), some (.int (nI k + 1))]) (S' := []) rfl (by decide +kernel) rfl ?_
      rw [nI_1 k]
      refine Ev.goto (off := (-26)) (tgt := 260) (by decide +kernel) (by decide) ?_
      refine ih (k + 1) Ia (by omega) (by omega) (RS.wk Ra (fun c hc j hj q => ?_))
      simp only [dnp] at q ⊢
      omega

set_option maxRecDepth 100000 in
set_option maxHeartbeats 4000000 in
theorem l_X7_rs3 {sc : Nat × (Nat → Int32)} {d : Nat} (I : Nat → Nat → Int32) (J : Nat → Nat → Int64) (n : Nat) (hn : n < 2) : ∀ (μ : Nat) (k : Nat) (I1 : Nat → Nat → Int32), 120 - k < μ → (k ≤ 120) → (RS I n I1 (dnp 7 8 k)) →  Ev sc (d + 1) 0 0 mX7_restore 228 [some (.ref 359), some (.int (nI n)), some (.int (nI (520 * n))), some (.int (nI k))] [] (zz_SH, I1, J) (fun r σ => r = some (.int (nI 1)) ∧ ∃ I' : Nat → Nat → Int32, RS I n I' (fun _ _ => True) ∧ σ = (zz_SH, I', J)) := by
  intro μ
  induction μ with
  | zero => intro k I1 hμ; exact absurd hμ (Nat.not_lt_zero _)
  | succ μ ih =>
    intro k I1 hμ hk H
    refine Ev.run [(.iload_n 3, 1), (.bipush 120, 2)] (pc' := 231) (L' := [some (.ref 359), some (.int (nI n)), some (.int (nI (520 * n))), some (.int (nI k))]) (S' := [.int (nI 120), .int (nI k)]) rfl (by decide +kernel) rfl ?_
    refine Ev.icmp_ge (off := 27) (tgt := 258) (by decide +kernel) (by decide) (fun h231 => ?_) (fun h231 => ?_)
    · have h231 : k ≥ 120 := zz_bG_t (by omega) (by omega) h231
      refine Ev.run [(.iconst 0, 1), (.istore_n 3, 1)] (pc' := 260) (L' := [some (.ref 359), some (.int (nI n)), some (.int (nI (520 * n))), some (.int (nI 0))]) (S' := []) rfl (by decide +kernel) rfl ?_
      refine l_X7_rs4 I J n hn 6 0 I1 (by omega) (by omega) (RS.wk H (fun c hc j hj q => ?_))
      simp only [dnp] at q ⊢
      rcases Nat.lt_or_ge c 7 with z | z
      · exact Or.inl z
      · have z9 : lnn c = 120 := by rw [show c = 7 by omega]; rfl
        exact Or.inr ⟨by omega, by omega⟩
    · have h231 : k < 120 := zz_bG_f (by omega) (by omega) h231
      refine Ev.run [(.aload_n 0, 1), (.getfield 31, 3), (.iload_n 3, 1), (.aload_n 0, 1), (.getfield 68, 3), (.iload_n 2, 1), (.sipush 338, 3), (.iadd, 1)] (pc' := 248) (L' := [some (.ref 359), some (.int (nI n)), some (.int (nI (520 * n))), some (.int (nI k))]) (S' := [.int (nI (520 * n) + nI 338), .ref 379, .int (nI k), .ref 367]) rfl (by decide +kernel) rfl ?_
      rw [nI_add (520 * n) 338]
      refine Ev.run [(.iload_n 3, 1), (.iadd, 1)] (pc' := 250) (L' := [some (.ref 359), some (.int (nI n)), some (.int (nI (520 * n))), some (.int (nI k))]) (S' := [.int (nI ((520 * n) + 338) + nI k), .ref 379, .int (nI k), .ref 367]) rfl (by decide +kernel) rfl ?_
      rw [nI_add ((520 * n) + 338) k]
      refine Ev.iald (((520 * n) + 338) + k) (by decide +kernel) (rfl) (rfl) (by omega) (by first | decide | omega) ?_
      dsimp only
      rw [show I1 379 (((520 * n) + 338) + k) = I 379 (((520 * n) + 338) + k) from by rw [H.1 379 (by decide)]]
      refine Ev.iast k (by decide +kernel) (rfl) (rfl) (by omega) (by first | decide | omega) ?_
      dsimp only
      have Ra := H.up 7 k 367 (by decide) (by decide) rfl (v := I 379 (((520 * n) + 338) + k)) rfl
      generalize zz_up I1 367 k (I 379 (((520 * n) + 338) + k)) = Ia at Ra ⊢
      refine Ev.run [(.iinc 3 1, 3)] (pc' := 255) (L' := [some (.ref 359), some (.int (nI n)), some (.int (nI (520 * n))), some (.int (nI k + 1))]) (S' := []) rfl (by decide +kernel) rfl ?_
      rw [nI_1 k]
      refine Ev.goto (off := (-27)) (tgt := 228) (by decide +kernel) (by decide) ?_
      refine ih (k + 1) Ia (by omega) (by omega) (RS.wk Ra (fun c hc j hj q => ?_))
      simp only [dnp] at q ⊢
      omega

set_option maxRecDepth 100000 in
set_option maxHeartbeats 4000000 in
theorem l_X7_rs2 {sc : Nat × (Nat → Int32)} {d : Nat} (I : Nat → Nat → Int32) (J : Nat → Nat → Int64) (n : Nat) (hn : n < 2) : ∀ (μ : Nat) (k : Nat) (I1 : Nat → Nat → Int32), 10 - k < μ → (k ≤ 10) → (RS I n I1 (dnp 6 7 k)) →  Ev sc (d + 1) 0 0 mX7_restore 196 [some (.ref 359), some (.int (nI n)), some (.int (nI (520 * n))), some (.int (nI k))] [] (zz_SH, I1, J) (fun r σ => r = some (.int (nI 1)) ∧ ∃ I' : Nat → Nat → Int32, RS I n I' (fun _ _ => True) ∧ σ = (zz_SH, I', J)) := by
  intro μ
  induction μ with
  | zero => intro k I1 hμ; exact absurd hμ (Nat.not_lt_zero _)
  | succ μ ih =>
    intro k I1 hμ hk H
    refine Ev.run [(.iload_n 3, 1), (.bipush 10, 2)] (pc' := 199) (L' := [some (.ref 359), some (.int (nI n)), some (.int (nI (520 * n))), some (.int (nI k))]) (S' := [.int (nI 10), .int (nI k)]) rfl (by decide +kernel) rfl ?_
    refine Ev.icmp_ge (off := 27) (tgt := 226) (by decide +kernel) (by decide) (fun h199 => ?_) (fun h199 => ?_)
    · have h199 : k ≥ 10 := zz_bG_t (by omega) (by omega) h199
      refine Ev.run [(.iconst 0, 1), (.istore_n 3, 1)] (pc' := 228) (L' := [some (.ref 359), some (.int (nI n)), some (.int (nI (520 * n))), some (.int (nI 0))]) (S' := []) rfl (by decide +kernel) rfl ?_
      refine l_X7_rs3 I J n hn 121 0 I1 (by omega) (by omega) (RS.wk H (fun c hc j hj q => ?_))
      simp only [dnp] at q ⊢
      rcases Nat.lt_or_ge c 6 with z | z
      · exact Or.inl z
      · have z9 : lnn c = 10 := by rw [show c = 6 by omega]; rfl
        exact Or.inr ⟨by omega, by omega⟩
    · have h199 : k < 10 := zz_bG_f (by omega) (by omega) h199
      refine Ev.run [(.aload_n 0, 1), (.getfield 28, 3), (.iload_n 3, 1), (.aload_n 0, 1), (.getfield 68, 3), (.iload_n 2, 1), (.sipush 328, 3), (.iadd, 1)] (pc' := 216) (L' := [some (.ref 359), some (.int (nI n)), some (.int (nI (520 * n))), some (.int (nI k))]) (S' := [.int (nI (520 * n) + nI 328), .ref 379, .int (nI k), .ref 366]) rfl (by decide +kernel) rfl ?_
      rw [nI_add (520 * n) 328]
      refine Ev.run [(.iload_n 3, 1), (.iadd, 1)] (pc' := 218) (L' := [some (.ref 359), some (.int (nI n)), some (.int (nI (520 * n))), some (.int (nI k))]) (S' := [.int (nI ((520 * n) + 328) + nI k), .ref 379, .int (nI k), .ref 366]) rfl (by decide +kernel) rfl ?_
      rw [nI_add ((520 * n) + 328) k]
      refine Ev.iald (((520 * n) + 328) + k) (by decide +kernel) (rfl) (rfl) (by omega) (by first | decide | omega) ?_
      dsimp only
      rw [show I1 379 (((520 * n) + 328) + k) = I 379 (((520 * n) + 328) + k) from by rw [H.1 379 (by decide)]]
      refine Ev.iast k (by decide +kernel) (rfl) (rfl) (by omega) (by first | decide | omega) ?_
      dsimp only
      have Ra := H.up 6 k 366 (by decide) (by decide) rfl (v := I 379 (((520 * n) + 328) + k)) rfl
      generalize zz_up I1 366 k (I 379 (((520 * n) + 328) + k)) = Ia at Ra ⊢
      refine Ev.run [(.iinc 3 1, 3)] (pc' := 223) (L' := [some (.ref 359), some (.int (nI n)), some (.int (nI (520 * n))), some (.int (nI k + 1))]) (S' := []) rfl (by decide +kernel) rfl ?_
      rw [nI_1 k]
      refine Ev.goto (off := (-27)) (tgt := 196) (by decide +kernel) (by decide) ?_
      refine ih (k + 1) Ia (by omega) (by omega) (RS.wk Ra (fun c hc j hj q => ?_))
      simp only [dnp] at q ⊢
      omega

set_option maxRecDepth 100000 in
set_option maxHeartbeats 4000000 in
theorem l_X7_rs1 {sc : Nat × (Nat → Int32)} {d : Nat} (I : Nat → Nat → Int32) (J : Nat → Nat → Int64) (n : Nat) (hn : n < 2) : ∀ (μ : Nat) (k : Nat) (I1 : Nat → Nat → Int32), 144 - k < μ → (k ≤ 144) → (RS I n I1 (dnp 4 6 k)) →  Ev sc (d + 1) 0 0 mX7_restore 146 [some (.ref 359), some (.int (nI n)), some (.int (nI (520 * n))), some (.int (nI k))] [] (zz_SH, I1, J) (fun r σ => r = some (.int (nI 1)) ∧ ∃ I' : Nat → Nat → Int32, RS I n I' (fun _ _ => True) ∧ σ = (zz_SH, I', J)) := by
  intro μ
  induction μ with
  | zero => intro k I1 hμ; exact absurd hμ (Nat.not_lt_zero _)
  | succ μ ih =>
    intro k I1 hμ hk H
    refine Ev.run [(.iload_n 3, 1), (.sipush 144, 3)] (pc' := 150) (L' := [some (.ref 359), some (.int (nI n)), some (.int (nI (520 * n))), some (.int (nI k))]) (S' := [.int (nI 144), .int (nI k)]) rfl (by decide +kernel) rfl ?_
    refine Ev.icmp_ge (off := 44) (tgt := 194) (by decide +kernel) (by decide) (fun h150 => ?_) (fun h150 => ?_)
    · have h150 : k ≥ 144 := zz_bG_t (by omega) (by omega) h150
      refine Ev.run [(.iconst 0, 1), (.istore_n 3, 1)] (pc' := 196) (L' := [some (.ref 359), some (.int (nI n)), some (.int (nI (520 * n))), some (.int (nI 0))]) (S' := []) rfl (by decide +kernel) rfl ?_
      refine l_X7_rs2 I J n hn 11 0 I1 (by omega) (by omega) (RS.wk H (fun c hc j hj q => ?_))
      simp only [dnp] at q ⊢
      rcases Nat.lt_or_ge c 4 with z | z
      · exact Or.inl z
      · have z9 : lnn c = 144 := by rcases (show c = 4 ∨ c = 5 by omega) with e | e <;> rw [e] <;> rfl
        exact Or.inr ⟨by omega, by omega⟩
    · have h150 : k < 144 := zz_bG_f (by omega) (by omega) h150
      refine Ev.run [(.aload_n 0, 1), (.getfield 22, 3), (.iload_n 3, 1), (.aload_n 0, 1), (.getfield 68, 3), (.iload_n 2, 1), (.bipush 40, 2), (.iadd, 1)] (pc' := 166) (L' := [some (.ref 359), some (.int (nI n)), some (.int (nI (520 * n))), some (.int (nI k))]) (S' := [.int (nI (520 * n) + nI 40), .ref 379, .int (nI k), .ref 364]) rfl (by decide +kernel) rfl ?_
      rw [nI_add (520 * n) 40]
      refine Ev.run [(.iload_n 3, 1), (.iadd, 1)] (pc' := 168) (L' := [some (.ref 359), some (.int (nI n)), some (.int (nI (520 * n))), some (.int (nI k))]) (S' := [.int (nI ((520 * n) + 40) + nI k), .ref 379, .int (nI k), .ref 364]) rfl (by decide +kernel) rfl ?_
      rw [nI_add ((520 * n) + 40) k]
      refine Ev.iald (((520 * n) + 40) + k) (by decide +kernel) (rfl) (rfl) (by omega) (by first | decide | omega) ?_
      dsimp only
      rw [show I1 379 (((520 * n) + 40) + k) = I 379 (((520 * n) + 40) + k) from by rw [H.1 379 (by decide)]]
      refine Ev.iast k (by decide +kernel) (rfl) (rfl) (by omega) (by first | decide | omega) ?_
      dsimp only
      have Ra := H.up 4 k 364 (by decide) (by decide) rfl (v := I 379 (((520 * n) + 40) + k)) rfl
      generalize zz_up I1 364 k (I 379 (((520 * n) + 40) + k)) = Ia at Ra ⊢
      refine Ev.run [(.aload_n 0, 1), (.getfield 25, 3), (.iload_n 3, 1), (.aload_n 0, 1), (.getfield 68, 3), (.iload_n 2, 1), (.sipush 184, 3), (.iadd, 1)] (pc' := 184) (L' := [some (.ref 359), some (.int (nI n)), some (.int (nI (520 * n))), some (.int (nI k))]) (S' := [.int (nI (520 * n) + nI 184), .ref 379, .int (nI k), .ref 365]) rfl (by decide +kernel) rfl ?_
      rw [nI_add (520 * n) 184]
      refine Ev.run [(.iload_n 3, 1), (.iadd, 1)] (pc' := 186) (L' := [some (.ref 359), some (.int (nI n)), some (.int (nI (520 * n))), some (.int (nI k))]) (S' := [.int (nI ((520 * n) + 184) + nI k), .ref 379, .int (nI k), .ref 365]) rfl (by decide +kernel) rfl ?_
      rw [nI_add ((520 * n) + 184) k]
      refine Ev.iald (((520 * n) + 184) + k) (by decide +kernel) (rfl) (rfl) (by omega) (by first | decide | omega) ?_
      dsimp only
      rw [show Ia 379 (((520 * n) + 184) + k) = I 379 (((520 * n) + 184) + k) from by rw [Ra.1 379 (by decide)]]
      refine Ev.iast k (by decide +kernel) (rfl) (rfl) (by omega) (by first | decide | omega) ?_
      dsimp only
      have Rb := Ra.up 5 k 365 (by decide) (by decide) rfl (v := I 379 (((520 * n) + 184) + k)) rfl
      generalize zz_up Ia 365 k (I 379 (((520 * n) + 184) + k)) = Ib at Rb ⊢
      refine Ev.run [(.iinc 3 1, 3)] (pc' := 191) (L' := [some (.ref 359), some (.int (nI n)), some (.int (nI (520 * n))), some (.int (nI k + 1))]) (S' := []) rfl (by decide +kernel) rfl ?_
      rw [nI_1 k]
      refine Ev.goto (off := (-45)) (tgt := 146) (by decide +kernel) (by decide) ?_
      refine ih (k + 1) Ib (by omega) (by omega) (RS.wk Rb (fun c hc j hj q => ?_))
      simp only [dnp] at q ⊢
      omega

set_option maxRecDepth 100000 in
set_option maxHeartbeats 4000000 in
theorem l_X7_rs0 {sc : Nat × (Nat → Int32)} {d : Nat} (I : Nat → Nat → Int32) (J : Nat → Nat → Int64) (n : Nat) (hn : n < 2) : ∀ (μ : Nat) (k : Nat) (I1 : Nat → Nat → Int32), 12 - k < μ → (k ≤ 12) → (RS I n I1 (dnp 1 4 k)) →  Ev sc (d + 1) 0 0 mX7_restore 82 [some (.ref 359), some (.int (nI n)), some (.int (nI (520 * n))), some (.int (nI k))] [] (zz_SH, I1, J) (fun r σ => r = some (.int (nI 1)) ∧ ∃ I' : Nat → Nat → Int32, RS I n I' (fun _ _ => True) ∧ σ = (zz_SH, I', J)) := by
  intro μ
  induction μ with
  | zero => intro k I1 hμ; exact absurd hμ (Nat.not_lt_zero _)
  | succ μ ih =>
    intro k I1 hμ hk H
    refine Ev.run [(.iload_n 3, 1), (.bipush 12, 2)] (pc' := 85) (L' := [some (.ref 359), some (.int (nI n)), some (.int (nI (520 * n))), some (.int (nI k))]) (S' := [.int (nI 12), .int (nI k)]) rfl (by decide +kernel) rfl ?_
    refine Ev.icmp_ge (off := 59) (tgt := 144) (by decide +kernel) (by decide) (fun h85 => ?_) (fun h85 => ?_)
    · have h85 : k ≥ 12 := zz_bG_t (by omega) (by omega) h85
      refine Ev.run [(.iconst 0, 1), (.istore_n 3, 1)] (pc' := 146) (L' := [some (.ref 359), some (.int (nI n)), some (.int (nI (520 * n))), some (.int (nI 0))]) (S' := []) rfl (by decide +kernel) rfl ?_
      refine l_X7_rs1 I J n hn 145 0 I1 (by omega) (by omega) (RS.wk H (fun c hc j hj q => ?_))
      simp only [dnp] at q ⊢
      rcases Nat.lt_or_ge c 1 with z | z
      · exact Or.inl z
      · have z9 : lnn c = 12 := by rcases (show c = 1 ∨ c = 2 ∨ c = 3 by omega) with e | e | e <;> rw [e] <;> rfl
        exact Or.inr ⟨by omega, by omega⟩
    · have h85 : k < 12 := zz_bG_f (by omega) (by omega) h85
      refine Ev.run [(.aload_n 0, 1), (.getfield 13, 3), (.iload_n 3, 1), (.aload_n 0, 1), (.getfield 68, 3), (.iload_n 2, 1), (.iconst 4, 1), (.iadd, 1)] (pc' := 100) (L' := [some (.ref 359), some (.int (nI n)), some (.int (nI (520 * n))), some (.int (nI k))]) (S' := [.int (nI (520 * n) + nI 4), .ref 379, .int (nI k), .ref 361]) rfl (by decide +kernel) rfl ?_
      rw [nI_add (520 * n) 4]
      refine Ev.run [(.iload_n 3, 1), (.iadd, 1)] (pc' := 102) (L' := [some (.ref 359), some (.int (nI n)), some (.int (nI (520 * n))), some (.int (nI k))]) (S' := [.int (nI ((520 * n) + 4) + nI k), .ref 379, .int (nI k), .ref 361]) rfl (by decide +kernel) rfl ?_
      rw [nI_add ((520 * n) + 4) k]
      refine Ev.iald (((520 * n) + 4) + k) (by decide +kernel) (rfl) (rfl) (by omega) (by first | decide | omega) ?_
      dsimp only
      rw [show I1 379 (((520 * n) + 4) + k) = I 379 (((520 * n) + 4) + k) from by rw [H.1 379 (by decide)]]
      refine Ev.iast k (by decide +kernel) (rfl) (rfl) (by omega) (by first | decide | omega) ?_
      dsimp only
      have Ra := H.up 1 k 361 (by decide) (by decide) rfl (v := I 379 (((520 * n) + 4) + k)) rfl
      generalize zz_up I1 361 k (I 379 (((520 * n) + 4) + k)) = Ia at Ra ⊢
      refine Ev.run [(.aload_n 0, 1), (.getfield 16, 3), (.iload_n 3, 1), (.aload_n 0, 1), (.getfield 68, 3), (.iload_n 2, 1), (.bipush 16, 2), (.iadd, 1)] (pc' := 117) (L' := [some (.ref 359), some (.int (nI n)), some (.int (nI (520 * n))), some (.int (nI k))]) (S' := [.int (nI (520 * n) + nI 16), .ref 379, .int (nI k), .ref 362]) rfl (by decide +kernel) rfl ?_
      rw [nI_add (520 * n) 16]
      refine Ev.run [(.iload_n 3, 1), (.iadd, 1)] (pc' := 119) (L' := [some (.ref 359), some (.int (nI n)), some (.int (nI (520 * n))), some (.int (nI k))]) (S' := [.int (nI ((520 * n) + 16) + nI k), .ref 379, .int (nI k), .ref 362]) rfl (by decide +kernel) rfl ?_
      rw [nI_add ((520 * n) + 16) k]
      refine Ev.iald (((520 * n) + 16) + k) (by decide +kernel) (rfl) (rfl) (by omega) (by first | decide | omega) ?_
      dsimp only
      rw [show Ia 379 (((520 * n) + 16) + k) = I 379 (((520 * n) + 16) + k) from by rw [Ra.1 379 (by decide)]]
      refine Ev.iast k (by decide +kernel) (rfl) (rfl) (by omega) (by first | decide | omega) ?_
      dsimp only
      have Rb := Ra.up 2 k 362 (by decide) (by decide) rfl (v := I 379 (((520 * n) + 16) + k)) rfl
      generalize zz_up Ia 362 k (I 379 (((520 * n) + 16) + k)) = Ib at Rb ⊢
      refine Ev.run [(.aload_n 0, 1), (.getfield 19, 3), (.iload_n 3, 1), (.aload_n 0, 1), (.getfield 68, 3), (.iload_n 2, 1), (.bipush 28, 2), (.iadd, 1)] (pc' := 134) (L' := [some (.ref 359), some (.int (nI n)), some (.int (nI (520 * n))), some (.int (nI k))]) (S' := [.int (nI (520 * n) + nI 28), .ref 379, .int (nI k), .ref 363]) rfl (by decide +kernel) rfl ?_
      rw [nI_add (520 * n) 28]
      refine Ev.run [(.iload_n 3, 1), (.iadd, 1)] (pc' := 136) (L' := [some (.ref 359), some (.int (nI n)), some (.int (nI (520 * n))), some (.int (nI k))]) (S' := [.int (nI ((520 * n) + 28) + nI k), .ref 379, .int (nI k), .ref 363]) rfl (by decide +kernel) rfl ?_
      rw [nI_add ((520 * n) + 28) k]
      refine Ev.iald (((520 * n) + 28) + k) (by decide +kernel) (rfl) (rfl) (by omega) (by first | decide | omega) ?_
      dsimp only
      rw [show Ib 379 (((520 * n) + 28) + k) = I 379 (((520 * n) + 28) + k) from by rw [Rb.1 379 (by decide)]]
      refine Ev.iast k (by decide +kernel) (rfl) (rfl) (by omega) (by first | decide | omega) ?_
      dsimp only
      have Rc := Rb.up 3 k 363 (by decide) (by decide) rfl (v := I 379 (((520 * n) + 28) + k)) rfl
      generalize zz_up Ib 363 k (I 379 (((520 * n) + 28) + k)) = Ic at Rc ⊢
      refine Ev.run [(.iinc 3 1, 3)] (pc' := 141) (L' := [some (.ref 359), some (.int (nI n)), some (.int (nI (520 * n))), some (.int (nI k + 1))]) (S' := []) rfl (by decide +kernel) rfl ?_
      rw [nI_1 k]
      refine Ev.goto (off := (-59)) (tgt := 82) (by decide +kernel) (by decide) ?_
      refine ih (k + 1) Ic (by omega) (by omega) (RS.wk Rc (fun c hc j hj q => ?_))
      simp only [dnp] at q ⊢
      omega

set_option maxRecDepth 100000 in
set_option maxHeartbeats 4000000 in
theorem c_X7_restore_o {sc : Nat × (Nat → Int32)} {d : Nat} (I : Nat → Nat → Int32) (J : Nat → Nat → Int64) (x : Int32) (hx : ¬ zz_ix x 2) : EvM sc (d + 1) 0 0 mX7_restore [.ref 359, .int x] (zz_SH, I, J) (zz_is (.int (-2)) (zz_SH, I, J)) := by
  refine EvM.of (by decide) rfl (Nat.le_of_ble_eq_true rfl) ?_
  show Ev _ _ _ _ _ 0 [some (.ref 359), some (.int x), none, none] [] (zz_SH, I, J) _
  refine Ev.run [(.iload_n 1, 1), (.iconst 0, 1), (.iconst 1, 1)] (pc' := 3) (L' := [some (.ref 359), some (.int x), none, none]) (S' := [.int (nI 1), .int (nI 0), .int x]) rfl (by decide +kernel) rfl ?_
  refine Ev.callS0 mX7_in [.int x, .int (nI 0), .int (nI 1)] [] _ rfl lk_RX7_79 (by decide +kernel) rfl (Nat.le_of_ble_eq_true rfl) (c_X7_in I J x (nI 0) (nI 1)) ?_
  rintro _ _ ⟨rfl, ⟨rfl, h3⟩ | ⟨rfl, h3⟩⟩
  · rw [show (nI 1 : Int32) = nI 2 - nI 1 by decide, zz_ix_iff (by decide)] at h3; exact absurd h3 hx
  · show Ev _ _ _ _ _ 6 [some (.ref 359), some (.int x), none, none] [.int (nI 0)] (zz_SH, I, J) _
    refine Ev.if_ne (off := 6) (tgt := 12) (by decide +kernel) (by decide) (fun h6 => absurd h6 (by decide)) (fun h6 => ?_)
    refine Ev.run [(.bipush (-2), 2)] (pc' := 11) (L' := [some (.ref 359), some (.int x), none, none]) (S' := [.int ((-2))]) rfl (by decide +kernel) rfl ?_
    exact Ev.iret rfl (by decide +kernel) (⟨rfl, rfl⟩)

set_option maxRecDepth 100000 in
set_option maxHeartbeats 4000000 in
theorem c_X7_restore_s {sc : Nat × (Nat → Int32)} {d : Nat} (I : Nat → Nat → Int32) (J : Nat → Nat → Int64) (n : Nat) (hn : n < 2) (hk : I 380 n = nI 0) : EvM sc (d + 1) 0 0 mX7_restore [.ref 359, .int (nI n)] (zz_SH, I, J) (zz_is (.int (-3)) (zz_SH, I, J)) := by
  refine EvM.of (by decide) rfl (Nat.le_of_ble_eq_true rfl) ?_
  show Ev _ _ _ _ _ 0 [some (.ref 359), some (.int (nI n)), none, none] [] (zz_SH, I, J) _
  refine Ev.run [(.iload_n 1, 1), (.iconst 0, 1), (.iconst 1, 1)] (pc' := 3) (L' := [some (.ref 359), some (.int (nI n)), none, none]) (S' := [.int (nI 1), .int (nI 0), .int (nI n)]) rfl (by decide +kernel) rfl ?_
  refine Ev.callS0 mX7_in [.int (nI n), .int (nI 0), .int (nI 1)] [] _ rfl lk_RX7_79 (by decide +kernel) rfl (Nat.le_of_ble_eq_true rfl) (c_X7_in I J (nI n) (nI 0) (nI 1)) ?_
  rintro _ _ ⟨rfl, ⟨rfl, h3⟩ | ⟨rfl, h3⟩⟩
  · show Ev _ _ _ _ _ 6 [some (.ref 359), some (.int (nI n)), none, none] [.int (nI 1)] (zz_SH, I, J) _
    refine Ev.if_ne (off := 6) (tgt := 12) (by decide +kernel) (by decide) (fun h6 => ?_) (fun h6 => absurd h6 (by decide))
    refine Ev.run [(.aload_n 0, 1), (.getfield 71, 3), (.iload_n 1, 1)] (pc' := 17) (L' := [some (.ref 359), some (.int (nI n)), none, none]) (S' := [.int (nI n), .ref 380]) rfl (by decide +kernel) rfl ?_
    refine Ev.zald n (by decide +kernel) (rfl) (rfl) (by omega) (by first | decide | omega) ?_
    dsimp only
    rw [show I 380 n = nI 0 from hk]
    refine Ev.if_ne (off := 6) (tgt := 24) (by decide +kernel) (by decide) (fun h18 => absurd h18 (by decide)) (fun h18 => ?_)
    refine Ev.run [(.bipush (-3), 2)] (pc' := 23) (L' := [some (.ref 359), some (.int (nI n)), none, none]) (S' := [.int ((-3))]) rfl (by decide +kernel) rfl ?_
    exact Ev.iret rfl (by decide +kernel) (⟨rfl, rfl⟩)
  · exact absurd ((zz_rng (by decide) (by decide) (by omega)).mpr ⟨Nat.zero_le n, by omega⟩) h3

set_option maxRecDepth 100000 in
set_option maxHeartbeats 4000000 in
theorem c_X7_restore_k {sc : Nat × (Nat → Int32)} {d : Nat} (I : Nat → Nat → Int32) (J : Nat → Nat → Int64) (n : Nat) (hn : n < 2) (hk : I 380 n = nI 1) : EvM sc (d + 1) 0 0 mX7_restore [.ref 359, .int (nI n)] (zz_SH, I, J) (fun r σ => r = some (.int (nI 1)) ∧ ∃ I' : Nat → Nat → Int32, RS I n I' (fun _ _ => True) ∧ σ = (zz_SH, I', J)) := by
  refine EvM.of (by decide) rfl (Nat.le_of_ble_eq_true rfl) ?_
  show Ev _ _ _ _ _ 0 [some (.ref 359), some (.int (nI n)), none, none] [] (zz_SH, I, J) _
  refine Ev.run [(.iload_n 1, 1), (.iconst 0, 1), (.iconst 1, 1)] (pc' := 3) (L' := [some (.ref 359), some (.int (nI n)), none, none]) (S' := [.int (nI 1), .int (nI 0), .int (nI n)]) rfl (by decide +kernel) rfl ?_
  refine Ev.callS0 mX7_in [.int (nI n), .int (nI 0), .int (nI 1)] [] _ rfl lk_RX7_79 (by decide +kernel) rfl (Nat.le_of_ble_eq_true rfl) (c_X7_in I J (nI n) (nI 0) (nI 1)) ?_
  rintro _ _ ⟨rfl, ⟨rfl, h3⟩ | ⟨rfl, h3⟩⟩
  · show Ev _ _ _ _ _ 6 [some (.ref 359), some (.int (nI n)), none, none] [.int (nI 1)] (zz_SH, I, J) _
    refine Ev.if_ne (off := 6) (tgt := 12) (by decide +kernel) (by decide) (fun h6 => ?_) (fun h6 => absurd h6 (by decide))
    refine Ev.run [(.aload_n 0, 1), (.getfield 71, 3), (.iload_n 1, 1)] (pc' := 17) (L' := [some (.ref 359), some (.int (nI n)), none, none]) (S' := [.int (nI n), .ref 380]) rfl (by decide +kernel) rfl ?_
    refine Ev.zald n (by decide +kernel) (rfl) (rfl) (by omega) (by first | decide | omega) ?_
    dsimp only
    rw [show I 380 n = nI 1 from hk]
    refine Ev.if_ne (off := 6) (tgt := 24) (by decide +kernel) (by decide) (fun h18 => ?_) (fun h18 => absurd h18 (by decide))
    refine Ev.run [(.sipush 520, 3), (.iload_n 1, 1), (.imul, 1)] (pc' := 29) (L' := [some (.ref 359), some (.int (nI n)), none, none]) (S' := [.int (nI 520 * nI n)]) rfl (by decide +kernel) rfl ?_
    rw [pk_mul 520 n]
    refine Ev.run [(.istore_n 2, 1)] (pc' := 30) (L' := [some (.ref 359), some (.int (nI n)), some (.int (nI (520 * n))), none]) (S' := []) rfl (by decide +kernel) rfl ?_
    have R0 : RS I n I (fun _ _ => False) := ⟨fun _ _ => rfl, fun _ _ _ => rfl, fun c hc j hj q => q.elim⟩
    refine Ev.run [(.aload_n 0, 1), (.aload_n 0, 1), (.getfield 68, 3), (.iload_n 2, 1)] (pc' := 36) (L' := [some (.ref 359), some (.int (nI n)), some (.int (nI (520 * n))), none]) (S' := [.int (nI (520 * n)), .ref 379, .ref 359]) rfl (by decide +kernel) rfl ?_
    refine Ev.iald (520 * n) (by decide +kernel) (rfl) (rfl) (by omega) (by first | decide | omega) ?_
    dsimp only
    rw [show I 379 (520 * n) = I 379 (520 * n) from by rw [R0.1 379 (by decide)]]
    refine Ev.putf (idx := 75) rfl rfl rfl (by decide +kernel) (rfl) rfl ?_
    dsimp only
    have Ra := R0.u0 359 2 0 (by decide) (v := I 379 (520 * n)) rfl
    generalize zz_up I 359 2 (I 379 (520 * n)) = Ia at Ra ⊢
    refine Ev.run [(.aload_n 0, 1), (.aload_n 0, 1), (.getfield 68, 3), (.iload_n 2, 1), (.iconst 1, 1), (.iadd, 1)] (pc' := 48) (L' := [some (.ref 359), some (.int (nI n)), some (.int (nI (520 * n))), none]) (S' := [.int (nI (520 * n) + nI 1), .ref 379, .ref 359]) rfl (by decide +kernel) rfl ?_
    rw [nI_add (520 * n) 1]
    refine Ev.iald ((520 * n) + 1) (by decide +kernel) (rfl) (rfl) (by omega) (by first | decide | omega) ?_
    dsimp only
    rw [show Ia 379 ((520 * n) + 1) = I 379 ((520 * n) + 1) from by rw [Ra.1 379 (by decide)]]
    refine Ev.putf (idx := 83) rfl rfl rfl (by decide +kernel) (rfl) rfl ?_
    dsimp only
    have Rb := Ra.u0 359 8 1 (by decide) (v := I 379 ((520 * n) + 1)) rfl
    generalize zz_up Ia 359 8 (I 379 ((520 * n) + 1)) = Ib at Rb ⊢
    refine Ev.run [(.aload_n 0, 1), (.getfield 40, 3), (.iconst 0, 1), (.aload_n 0, 1), (.getfield 68, 3), (.iload_n 2, 1), (.iconst 2, 1), (.iadd, 1)] (pc' := 64) (L' := [some (.ref 359), some (.int (nI n)), some (.int (nI (520 * n))), none]) (S' := [.int (nI (520 * n) + nI 2), .ref 379, .int (nI 0), .ref 370]) rfl (by decide +kernel) rfl ?_
    rw [nI_add (520 * n) 2]
    refine Ev.iald ((520 * n) + 2) (by decide +kernel) (rfl) (rfl) (by omega) (by first | decide | omega) ?_
    dsimp only
    rw [show Ib 379 ((520 * n) + 2) = I 379 ((520 * n) + 2) from by rw [Rb.1 379 (by decide)]]
    refine Ev.iast 0 (by decide +kernel) (rfl) (rfl) (by omega) (by first | decide | omega) ?_
    dsimp only
    have Rc := Rb.u0 370 0 2 (by decide) (v := I 379 ((520 * n) + 2)) rfl
    generalize zz_up Ib 370 0 (I 379 ((520 * n) + 2)) = Ic at Rc ⊢
    refine Ev.run [(.aload_n 0, 1), (.getfield 40, 3), (.iconst 1, 1), (.aload_n 0, 1), (.getfield 68, 3), (.iload_n 2, 1), (.iconst 3, 1), (.iadd, 1)] (pc' := 78) (L' := [some (.ref 359), some (.int (nI n)), some (.int (nI (520 * n))), none]) (S' := [.int (nI (520 * n) + nI 3), .ref 379, .int (nI 1), .ref 370]) rfl (by decide +kernel) rfl ?_
    rw [nI_add (520 * n) 3]
    refine Ev.iald ((520 * n) + 3) (by decide +kernel) (rfl) (rfl) (by omega) (by first | decide | omega) ?_
    dsimp only
    rw [show Ic 379 ((520 * n) + 3) = I 379 ((520 * n) + 3) from by rw [Rc.1 379 (by decide)]]
    refine Ev.iast 1 (by decide +kernel) (rfl) (rfl) (by omega) (by first | decide | omega) ?_
    dsimp only
    have Rd := Rc.u0 370 1 3 (by decide) (v := I 379 ((520 * n) + 3)) rfl
    generalize zz_up Ic 370 1 (I 379 ((520 * n) + 3)) = Id at Rd ⊢
    refine Ev.run [(.iconst 0, 1), (.istore_n 3, 1)] (pc' := 82) (L' := [some (.ref 359), some (.int (nI n)), some (.int (nI (520 * n))), some (.int (nI 0))]) (S' := []) rfl (by decide +kernel) rfl ?_
    refine l_X7_rs0 I J n hn 13 0 Id (by omega) (by omega) (RS.wk Rd (fun c hc j hj q => ?_))
    simp only [dnp] at q ⊢
    have z9 : lnn c = 4 := by rw [show c = 0 by omega]; rfl
    omega
  · exact absurd ((zz_rng (by decide) (by decide) (by omega)).mpr ⟨Nat.zero_le n, by omega⟩) h3
