/-! ===== the model: image ===== -/
def lnn (c : Nat) : Nat := ([4, 12, 12, 12, 144, 144, 10, 120, 5, 16, 24] : List Nat).getD c 0
def off (c : Nat) : Nat := ([0, 4, 16, 28, 40, 184, 328, 338, 458, 463, 479] : List Nat).getD c 0
def zVi (I : Nat → Nat → Int32) (n : Nat) : Nat → Nat → Int32 := fun c j => I 379 (520 * n + off c + j)
theorem off_gap : ∀ c, c < 11 → ∀ e, e < 11 → c < e → off c + lnn c ≤ off e := by decide
theorem off_top : ∀ c, c < 11 → off c + lnn c ≤ 503 := by decide
theorem off_inj {c e j k : Nat} (hc : c < 11) (he : e < 11) (hj : j < lnn c) (hk : k < lnn e) (h : off c + j = off e + k) : c = e ∧ j = k := by
  rcases Nat.lt_trichotomy c e with q | q | q
  · have := off_gap c hc e he q; omega
  · subst q; exact ⟨rfl, by omega⟩
  · have := off_gap e he c hc q; omega
/-- what of an image is written -/
def IM (I : Nat → Nat → Int32) (n : Nat) (h : Nat → Int32) (D : Nat → Nat → Prop) : Prop := (∀ c, c < 11 → ∀ j, j < lnn c → D c j → h (520 * n + off c + j) = zVm I c j) ∧ ∀ x, (x < 520 * n ∨ 520 * n + 520 ≤ x) → h x = I 379 x
theorem IM.up {I : Nat → Nat → Int32} {n : Nat} {h : Nat → Int32} {D : Nat → Nat → Prop} (H : IM I n h D) (e k : Nat) (he : e < 11) (hk : k < lnn e) {x : Nat} (hx : x = 520 * n + off e + k) {v : Int32} (hv : v = zVm I e k) : IM I n (upd h x v) (fun c j => D c j ∨ (c = e ∧ j = k)) := by
  subst hx
  subst hv
  refine ⟨fun c hc j hj hd => ?_, fun x hx => ?_⟩
  · by_cases q : c = e ∧ j = k
    · rw [q.1, q.2, zz_ups]
    · rw [zz_upn (fun z => q (off_inj hc he hj hk (by omega)))]
      exact H.1 c hc j hj (hd.resolve_right q)
  · have := off_top e he
    rw [zz_upn (by omega)]
    exact H.2 x hx
theorem IM.wk {I : Nat → Nat → Int32} {n : Nat} {h : Nat → Int32} {D D' : Nat → Nat → Prop} (H : IM I n h D) (hd : ∀ c, c < 11 → ∀ j, j < lnn c → D' c j → D c j) : IM I n h D' := ⟨fun c hc j hj h9 => H.1 c hc j hj (hd c hc j hj h9), H.2⟩
def dnp (a b k : Nat) : Nat → Nat → Prop := fun c j => c < a ∨ (c < b ∧ j < k)

set_option maxRecDepth 100000 in
set_option maxHeartbeats 4000000 in
theorem l_X7_im6 {sc : Nat × (Nat → Int32)} {d : Nat} (I : Nat → Nat → Int32) (J : Nat → Nat → Int64) (n : Nat) (hn : n < 2) : ∀ (μ : Nat) (k : Nat) (h : Nat → Int32), 24 - k < μ → (k ≤ 24) → (IM I n h (dnp 10 11 k)) →  Ev sc (d + 1) 0 0 mX7_image 311 [some (.ref 359), some (.int (nI n)), some (.int (nI (520 * n))), some (.int (nI k))] [] (zz_SH, zz_cs I 379 h, J) (fun r σ => r = some (.int (nI 1)) ∧ ∃ h : Nat → Int32, IM I n h (fun _ _ => True) ∧ σ = (zz_SH, zz_up (zz_cs I 379 h) 380 n (vp_nar .boolean (nI 1)), J)) := by
  intro μ
  induction μ with
  | zero => intro k h hμ; exact absurd hμ (Nat.not_lt_zero _)
  | succ μ ih =>
    intro k h hμ hk H
    refine Ev.run [(.iload_n 3, 1), (.bipush 24, 2)] (pc' := 314) (L' := [some (.ref 359), some (.int (nI n)), some (.int (nI (520 * n))), some (.int (nI k))]) (S' := [.int (nI 24), .int (nI k)]) rfl (by decide +kernel) rfl ?_
    refine Ev.icmp_ge (off := 27) (tgt := 341) (by decide +kernel) (by decide) (fun h314 => ?_) (fun h314 => ?_)
    · have h314 : k ≥ 24 := zz_bG_t (by omega) (by omega) h314
      refine Ev.run [(.aload_n 0, 1), (.getfield 71, 3), (.iload_n 1, 1), (.iconst 1, 1)] (pc' := 347) (L' := [some (.ref 359), some (.int (nI n)), some (.int (nI (520 * n))), some (.int (nI k))]) (S' := [.int (nI 1), .int (nI n), .ref 380]) rfl (by decide +kernel) rfl ?_
      refine Ev.zast n (by decide +kernel) (rfl) (rfl) (by omega) (by first | decide | omega) ?_
      refine Ev.run [(.iconst 1, 1)] (pc' := 349) (L' := [some (.ref 359), some (.int (nI n)), some (.int (nI (520 * n))), some (.int (nI k))]) (S' := [.int (nI 1)]) rfl (by decide +kernel) rfl ?_
      exact Ev.iret rfl (by decide +kernel) (⟨rfl, h, IM.wk H (fun c hc j hj q => by rcases Nat.lt_or_ge c 10 with z | z; exact Or.inl z; exact Or.inr ⟨by omega, by have z9 : lnn c = 24 := (by rw [show c = 10 by omega]; rfl); omega⟩), rfl⟩)
    · have h314 : k < 24 := zz_bG_f (by omega) (by omega) h314
      refine Ev.run [(.aload_n 0, 1), (.getfield 68, 3), (.iload_n 2, 1), (.sipush 479, 3), (.iadd, 1)] (pc' := 326) (L' := [some (.ref 359), some (.int (nI n)), some (.int (nI (520 * n))), some (.int (nI k))]) (S' := [.int (nI (520 * n) + nI 479), .ref 379]) rfl (by decide +kernel) rfl ?_
      rw [nI_add (520 * n) 479]
      refine Ev.run [(.iload_n 3, 1), (.iadd, 1)] (pc' := 328) (L' := [some (.ref 359), some (.int (nI n)), some (.int (nI (520 * n))), some (.int (nI k))]) (S' := [.int (nI ((520 * n) + 479) + nI k), .ref 379]) rfl (by decide +kernel) rfl ?_
      rw [nI_add ((520 * n) + 479) k]
      refine Ev.run [(.aload_n 0, 1), (.getfield 43, 3), (.iload_n 3, 1)] (pc' := 333) (L' := [some (.ref 359), some (.int (nI n)), some (.int (nI (520 * n))), some (.int (nI k))]) (S' := [.int (nI k), .ref 371, .int (nI (((520 * n) + 479) + k)), .ref 379]) rfl (by decide +kernel) rfl ?_
      refine Ev.iald k (by decide +kernel) (rfl) (rfl) (by omega) (by first | decide | omega) ?_
      dsimp only
      rw [show (zz_cs I 379 h) 371 k = I 371 k from by rw [zz_cs_ne (by decide)]]
      refine Ev.iast (((520 * n) + 479) + k) (by decide +kernel) (rfl) (rfl) (by omega) (by first | decide | omega) ?_
      dsimp only
      rw [zz_cs_up]
      refine Ev.run [(.iinc 3 1, 3)] (pc' := 338) (L' := [some (.ref 359), some (.int (nI n)), some (.int (nI (520 * n))), some (.int (nI k + 1))]) (S' := []) rfl (by decide +kernel) rfl ?_
      rw [nI_1 k]
      refine Ev.goto (off := (-27)) (tgt := 311) (by decide +kernel) (by decide) ?_
      refine ih (k + 1) _ (by omega) (by omega) (IM.wk (H.up 10 k (by decide) (show k < 24 by omega) (show _ = 520 * n + 479 + k by omega) rfl) (fun c hc j hj q => ?_))
      simp only [dnp] at q ⊢
      omega

set_option maxRecDepth 100000 in
set_option maxHeartbeats 4000000 in
theorem l_X7_im5 {sc : Nat × (Nat → Int32)} {d : Nat} (I : Nat → Nat → Int32) (J : Nat → Nat → Int64) (n : Nat) (hn : n < 2) : ∀ (μ : Nat) (k : Nat) (h : Nat → Int32), 16 - k < μ → (k ≤ 16) → (IM I n h (dnp 9 10 k)) →  Ev sc (d + 1) 0 0 mX7_image 279 [some (.ref 359), some (.int (nI n)), some (.int (nI (520 * n))), some (.int (nI k))] [] (zz_SH, zz_cs I 379 h, J) (fun r σ => r = some (.int (nI 1)) ∧ ∃ h : Nat → Int32, IM I n h (fun _ _ => True) ∧ σ = (zz_SH, zz_up (zz_cs I 379 h) 380 n (vp_nar .boolean (nI 1)), J)) := by
  intro μ
  induction μ with
  | zero => intro k h hμ; exact absurd hμ (Nat.not_lt_zero _)
  | succ μ ih =>
    intro k h hμ hk H
    refine Ev.run [(.iload_n 3, 1), (.bipush 16, 2)] (pc' := 282) (L' := [some (.ref 359), some (.int (nI n)), some (.int (nI (520 * n))), some (.int (nI k))]) (S' := [.int (nI 16), .int (nI k)]) rfl (by decide +kernel) rfl ?_
    refine Ev.icmp_ge (off := 27) (tgt := 309) (by decide +kernel) (by decide) (fun h282 => ?_) (fun h282 => ?_)
    · have h282 : k ≥ 16 := zz_bG_t (by omega) (by omega) h282
      refine Ev.run [(.iconst 0, 1), (.istore_n 3, 1)] (pc' := 311) (L' := [some (.ref 359), some (.int (nI n)), some (.int (nI (520 * n))), some (.int (nI 0))]) (S' := []) rfl (by decide +kernel) rfl ?_
      refine l_X7_im6 I J n hn 25 0 h (by omega) (by omega) (IM.wk H (fun c hc j hj q => ?_))
      simp only [dnp] at q ⊢
      rcases Nat.lt_or_ge c 9 with z | z
      · exact Or.inl z
      · have z9 : lnn c = 16 := by rw [show c = 9 by omega]; rfl
        exact Or.inr ⟨by omega, by omega⟩
    · have h282 : k < 16 := zz_bG_f (by omega) (by omega) h282
      refine Ev.run [(.aload_n 0, 1), (.getfield 68, 3), (.iload_n 2, 1), (.sipush 463, 3), (.iadd, 1)] (pc' := 294) (L' := [some (.ref 359), some (.int (nI n)), some (.int (nI (520 * n))), some (.int (nI k))]) (S' := [.int (nI (520 * n) + nI 463), .ref 379]) rfl (by decide +kernel) rfl ?_
      rw [nI_add (520 * n) 463]
      refine Ev.run [(.iload_n 3, 1), (.iadd, 1)] (pc' := 296) (L' := [some (.ref 359), some (.int (nI n)), some (.int (nI (520 * n))), some (.int (nI k))]) (S' := [.int (nI ((520 * n) + 463) + nI k), .ref 379]) rfl (by decide +kernel) rfl ?_
      rw [nI_add ((520 * n) + 463) k]
      refine Ev.run [(.aload_n 0, 1), (.getfield 37, 3), (.iload_n 3, 1)] (pc' := 301) (L' := [some (.ref 359), some (.int (nI n)), some (.int (nI (520 * n))), some (.int (nI k))]) (S' := [.int (nI k), .ref 369, .int (nI (((520 * n) + 463) + k)), .ref 379]) rfl (by decide +kernel) rfl ?_
      refine Ev.iald k (by decide +kernel) (rfl) (rfl) (by omega) (by first | decide | omega) ?_
      dsimp only
      rw [show (zz_cs I 379 h) 369 k = I 369 k from by rw [zz_cs_ne (by decide)]]
      refine Ev.iast (((520 * n) + 463) + k) (by decide +kernel) (rfl) (rfl) (by omega) (by first | decide | omega) ?_
      dsimp only
      rw [zz_cs_up]
      refine Ev.run [(.iinc 3 1, 3)] (pc' := 306) (L' := [some (.ref 359), some (.int (nI n)), some (.int (nI (520 * n))), some (.int (nI k + 1))]) (S' := []) rfl (by decide +kernel) rfl ?_
      rw [nI_1 k]
      refine Ev.goto (off := (-27)) (tgt := 279) (by decide +kernel) (by decide) ?_
      refine ih (k + 1) _ (by omega) (by omega) (IM.wk (H.up 9 k (by decide) (show k < 16 by omega) (show _ = 520 * n + 463 + k by omega) rfl) (fun c hc j hj q => ?_))
      simp only [dnp] at q ⊢
      omega

set_option maxRecDepth 100000 in
set_option maxHeartbeats 4000000 in
theorem l_X7_im4 {sc : Nat × (Nat → Int32)} {d : Nat} (I : Nat → Nat → Int32) (J : Nat → Nat → Int64) (n : Nat) (hn : n < 2) : ∀ (μ : Nat) (k : Nat) (h : Nat → Int32), 5 - k < μ → (k ≤ 5) → (IM I n h (dnp 8 9 k)) →  Ev sc (d + 1) 0 0 mX7_image 248 [some (.ref 359), some (.int (nI n)), some (.int (nI (520 * n))), some (.int (nI k))] [] (zz_SH, zz_cs I 379 h, J) (fun r σ => r = some (.int (nI 1)) ∧ ∃ h : Nat → Int32, IM I n h (fun _ _ => True) ∧ σ = (zz_SH, zz_up (zz_cs I 379 h) 380 n (vp_nar .boolean (nI 1)), J)) := by
  intro μ
  induction μ with
  | zero => intro k h hμ; exact absurd hμ (Nat.not_lt_zero _)
  | succ μ ih =>
    intro k h hμ hk H
    refine Ev.run [(.iload_n 3, 1), (.iconst 5, 1)] (pc' := 250) (L' := [some (.ref 359), some (.int (nI n)), some (.int (nI (520 * n))), some (.int (nI k))]) (S' := [.int (nI 5), .int (nI k)]) rfl (by decide +kernel) rfl ?_
    refine Ev.icmp_ge (off := 27) (tgt := 277) (by decide +kernel) (by decide) (fun h250 => ?_) (fun h250 => ?_)
    · have h250 : k ≥ 5 := zz_bG_t (by omega) (by omega) h250
      refine Ev.run [(.iconst 0, 1), (.istore_n 3, 1)] (pc' := 279) (L' := [some (.ref 359), some (.int (nI n)), some (.int (nI (520 * n))), some (.int (nI 0))]) (S' := []) rfl (by decide +kernel) rfl ?_
      refine l_X7_im5 I J n hn 17 0 h (by omega) (by omega) (IM.wk H (fun c hc j hj q => ?_))
      simp only [dnp] at q ⊢
      rcases Nat.lt_or_ge c 8 with z | z
      · exact Or.inl z
      · have z9 : lnn c = 5 := by rw [show c = 8 by omega]; rfl
        exact Or.inr ⟨by omega, by omega⟩
    · have h250 : k < 5 := zz_bG_f (by omega) (by omega) h250
      refine Ev.run [(.aload_n 0, 1), (.getfield 68, 3), (.iload_n 2, 1), (.sipush 458, 3), (.iadd, 1)] (pc' := 262) (L' := [some (.ref 359), some (.int (nI n)), some (.int (nI (520 * n))), some (.int (nI k))]) (S' := [.int (nI (520 * n) + nI 458), .ref 379]) rfl (by decide +kernel) rfl ?_
      rw [nI_add (520 * n) 458]
      refine Ev.run [(.iload_n 3, 1), (.iadd, 1)] (pc' := 264) (L' := [some (.ref 359), some (.int (nI n)), some (.int (nI (520 * n))), some (.int (nI k))]) (S' := [.int (nI ((520 * n) + 458) + nI k), .ref 379]) rfl (by decide +kernel) rfl ?_
      rw [nI_add ((520 * n) + 458) k]
      refine Ev.run [(.aload_n 0, 1), (.getfield 34, 3), (.iload_n 3, 1)] (pc' := 269) (L' := [some (.ref 359), some (.int (nI n)), some (.int (nI (520 * n))), some (.int (nI k))]) (S' := [.int (nI k), .ref 368, .int (nI (((520 * n) + 458) + k)), .ref 379]) rfl (by decide +kernel) rfl ?_
      refine Ev.iald k (by decide +kernel) (rfl) (rfl) (by omega) (by first | decide | omega) ?_
      dsimp only
      rw [show (zz_cs I 379 h) 368 k = I 368 k from by rw [zz_cs_ne (by decide)]]
      refine Ev.iast (((520 * n) + 458) + k) (by decide +kernel) (rfl) (rfl) (by omega) (by first | decide | omega) ?_
      dsimp only
      rw [zz_cs_up]
      refine Ev.run [(.iinc 3 1, 3)] (pc' := 274) (L' := [some (.ref 359), some (.int (nI n)), some (.int (nI (520 * n))), some (.int (nI k + 1))]) (S' := []) rfl (by decide +kernel) rfl ?_
      rw [nI_1 k]
      refine Ev.goto (off := (-26)) (tgt := 248) (by decide +kernel) (by decide) ?_
      refine ih (k + 1) _ (by omega) (by omega) (IM.wk (H.up 8 k (by decide) (show k < 5 by omega) (show _ = 520 * n + 458 + k by omega) rfl) (fun c hc j hj q => ?_))
      simp only [dnp] at q ⊢
      omega

set_option maxRecDepth 100000 in
set_option maxHeartbeats 4000000 in
theorem l_X7_im3 {sc : Nat × (Nat → Int32)} {d : Nat} (I : Nat → Nat → Int32) (J : Nat → Nat → Int64) (n : Nat) (hn : n < 2) : ∀ (μ : Nat) (k : Nat) (h : Nat → Int32), 120 - k < μ → (k ≤ 120) → (IM I n h (dnp 7 8 k)) →  Ev sc (d + 1) 0 0 mX7_image 216 [some (.ref 359), some (.int (nI n)), some (.int (nI (520 * n))), some (.int (nI k))] [] (zz_SH, zz_cs I 379 h, J) (fun r σ => r = some (.int (nI 1)) ∧ ∃ h : Nat → Int32, IM I n h (fun _ _ => True) ∧ σ = (zz_SH, zz_up (zz_cs I 379 h) 380 n (vp_nar .boolean (nI 1)), J)) := by
  intro μ
  induction μ with
  | zero => intro k h hμ; exact absurd hμ (Nat.not_lt_zero _)
  | succ μ ih =>
    intro k h hμ hk H
    refine Ev.run [(.iload_n 3, 1), (.bipush 120, 2)] (pc' := 219) (L' := [some (.ref 359), some (.int (nI n)), some (.int (nI (520 * n))), some (.int (nI k))]) (S' := [.int (nI 120), .int (nI k)]) rfl (by decide +kernel) rfl ?_
    refine Ev.icmp_ge (off := 27) (tgt := 246) (by decide +kernel) (by decide) (fun h219 => ?_) (fun h219 => ?_)
    · have h219 : k ≥ 120 := zz_bG_t (by omega) (by omega) h219
      refine Ev.run [(.iconst 0, 1), (.istore_n 3, 1)] (pc' := 248) (L' := [some (.ref 359), some (.int (nI n)), some (.int (nI (520 * n))), some (.int (nI 0))]) (S' := []) rfl (by decide +kernel) rfl ?_
      refine l_X7_im4 I J n hn 6 0 h (by omega) (by omega) (IM.wk H (fun c hc j hj q => ?_))
      simp only [dnp] at q ⊢
      rcases Nat.lt_or_ge c 7 with z | z
      · exact Or.inl z
      · have z9 : lnn c = 120 := by rw [show c = 7 by omega]; rfl
        exact Or.inr ⟨by omega, by omega⟩
    · have h219 : k < 120 := zz_bG_f (by omega) (by omega) h219
      refine Ev.run [(.aload_n 0, 1), (.getfield 68, 3), (.iload_n 2, 1), (.sipush 338, 3), (.iadd, 1)] (pc' := 231) (L' := [some (.ref 359), some (.int (nI n)), some (.int (nI (520 * n))), some (.int (nI k))]) (S' := [.int (nI (520 * n) + nI 338), .ref 379]) rfl (by decide +kernel) rfl ?_
      rw [nI_add (520 * n) 338]
      refine Ev.run [(.iload_n 3, 1), (.iadd, 1)] (pc' := 233) (L' := [some (.ref 359), some (.int (nI n)), some (.int (nI (520 * n))), some (.int (nI k))]) (S' := [.int (nI ((520 * n) + 338) + nI k), .ref 379]) rfl (by decide +kernel) rfl ?_
      rw [nI_add ((520 * n) + 338) k]
      refine Ev.run [(.aload_n 0, 1), (.getfield 31, 3), (.iload_n 3, 1)] (pc' := 238) (L' := [some (.ref 359), some (.int (nI n)), some (.int (nI (520 * n))), some (.int (nI k))]) (S' := [.int (nI k), .ref 367, .int (nI (((520 * n) + 338) + k)), .ref 379]) rfl (by decide +kernel) rfl ?_
      refine Ev.iald k (by decide +kernel) (rfl) (rfl) (by omega) (by first | decide | omega) ?_
      dsimp only
      rw [show (zz_cs I 379 h) 367 k = I 367 k from by rw [zz_cs_ne (by decide)]]
      refine Ev.iast (((520 * n) + 338) + k) (by decide +kernel) (rfl) (rfl) (by omega) (by first | decide | omega) ?_
      dsimp only
      rw [zz_cs_up]
      refine Ev.run [(.iinc 3 1, 3)] (pc' := 243) (L' := [some (.ref 359), some (.int (nI n)), some (.int (nI (520 * n))), some (.int (nI k + 1))]) (S' := []) rfl (by decide +kernel) rfl ?_
      rw [nI_1 k]
      refine Ev.goto (off := (-27)) (tgt := 216) (by decide +kernel) (by decide) ?_
      refine ih (k + 1) _ (by omega) (by omega) (IM.wk (H.up 7 k (by decide) (show k < 120 by omega) (show _ = 520 * n + 338 + k by omega) rfl) (fun c hc j hj q => ?_))
      simp only [dnp] at q ⊢
      omega

set_option maxRecDepth 100000 in
set_option maxHeartbeats 4000000 in
theorem l_X7_im2 {sc : Nat × (Nat → Int32)} {d : Nat} (I : Nat → Nat → Int32) (J : Nat → Nat → Int64) (n : Nat) (hn : n < 2) : ∀ (μ : Nat) (k : Nat) (h : Nat → Int32), 10 - k < μ → (k ≤ 10) → (IM I n h (dnp 6 7 k)) →  Ev sc (d + 1) 0 0 mX7_image 184 [some (.ref 359), some (.int (nI n)), some (.int (nI (520 * n))), some (.int (nI k))] [] (zz_SH, zz_cs I 379 h, J) (fun r σ => r = some (.int (nI 1)) ∧ ∃ h : Nat → Int32, IM I n h (fun _ _ => True) ∧ σ = (zz_SH, zz_up (zz_cs I 379 h) 380 n (vp_nar .boolean (nI 1)), J)) := by
  intro μ
  induction μ with
  | zero => intro k h hμ; exact absurd hμ (Nat.not_lt_zero _)
  | succ μ ih =>
    intro k h hμ hk H
    refine Ev.run [(.iload_n 3, 1), (.bipush 10, 2)] (pc' := 187) (L' := [some (.ref 359), some (.int (nI n)), some (.int (nI (520 * n))), some (.int (nI k))]) (S' := [.int (nI 10), .int (nI k)]) rfl (by decide +kernel) rfl ?_
    refine Ev.icmp_ge (off := 27) (tgt := 214) (by decide +kernel) (by decide) (fun h187 => ?_) (fun h187 => ?_)
    · have h187 : k ≥ 10 := zz_bG_t (by omega) (by omega) h187
      refine Ev.run [(.iconst 0, 1), (.istore_n 3, 1)] (pc' := 216) (L' := [some (.ref 359), some (.int (nI n)), some (.int (nI (520 * n))), some (.int (nI 0))]) (S' := []) rfl (by decide +kernel) rfl ?_
      refine l_X7_im3 I J n hn 121 0 h (by omega) (by omega) (IM.wk H (fun c hc j hj q => ?_))
      simp only [dnp] at q ⊢
      rcases Nat.lt_or_ge c 6 with z | z
      · exact Or.inl z
      · have z9 : lnn c = 10 := by rw [show c = 6 by omega]; rfl
        exact Or.inr ⟨by omega, by omega⟩
    · have h187 : k < 10 := zz_bG_f (by omega) (by omega) h187
      refine Ev.run [(.aload_n 0, 1), (.getfield 68, 3), (.iload_n 2, 1), (.sipush 328, 3), (.iadd, 1)] (pc' := 199) (L' := [some (.ref 359), some (.int (nI n)), some (.int (nI (520 * n))), some (.int (nI k))]) (S' := [.int (nI (520 * n) + nI 328), .ref 379]) rfl (by decide +kernel) rfl ?_
      rw [nI_add (520 * n) 328]
      refine Ev.run [(.iload_n 3, 1), (.iadd, 1)] (pc' := 201) (L' := [some (.ref 359), some (.int (nI n)), some (.int (nI (520 * n))), some (.int (nI k))]) (S' := [.int (nI ((520 * n) + 328) + nI k), .ref 379]) rfl (by decide +kernel) rfl ?_
      rw [nI_add ((520 * n) + 328) k]
      refine Ev.run [(.aload_n 0, 1), (.getfield 28, 3), (.iload_n 3, 1)] (pc' := 206) (L' := [some (.ref 359), some (.int (nI n)), some (.int (nI (520 * n))), some (.int (nI k))]) (S' := [.int (nI k), .ref 366, .int (nI (((520 * n) + 328) + k)), .ref 379]) rfl (by decide +kernel) rfl ?_
      refine Ev.iald k (by decide +kernel) (rfl) (rfl) (by omega) (by first | decide | omega) ?_
      dsimp only
      rw [show (zz_cs I 379 h) 366 k = I 366 k from by rw [zz_cs_ne (by decide)]]
      refine Ev.iast (((520 * n) + 328) + k) (by decide +kernel) (rfl) (rfl) (by omega) (by first | decide | omega) ?_
      dsimp only
      rw [zz_cs_up]
      refine Ev.run [(.iinc 3 1, 3)] (pc' := 211) (L' := [some (.ref 359), some (.int (nI n)), some (.int (nI (520 * n))), some (.int (nI k + 1))]) (S' := []) rfl (by decide +kernel) rfl ?_
      rw [nI_1 k]
      refine Ev.goto (off := (-27)) (tgt := 184) (by decide +kernel) (by decide) ?_
      refine ih (k + 1) _ (by omega) (by omega) (IM.wk (H.up 6 k (by decide) (show k < 10 by omega) (show _ = 520 * n + 328 + k by omega) rfl) (fun c hc j hj q => ?_))
      simp only [dnp] at q ⊢
      omega

set_option maxRecDepth 100000 in
set_option maxHeartbeats 4000000 in
theorem l_X7_im1 {sc : Nat × (Nat → Int32)} {d : Nat} (I : Nat → Nat → Int32) (J : Nat → Nat → Int64) (n : Nat) (hn : n < 2) : ∀ (μ : Nat) (k : Nat) (h : Nat → Int32), 144 - k < μ → (k ≤ 144) → (IM I n h (dnp 4 6 k)) →  Ev sc (d + 1) 0 0 mX7_image 134 [some (.ref 359), some (.int (nI n)), some (.int (nI (520 * n))), some (.int (nI k))] [] (zz_SH, zz_cs I 379 h, J) (fun r σ => r = some (.int (nI 1)) ∧ ∃ h : Nat → Int32, IM I n h (fun _ _ => True) ∧ σ = (zz_SH, zz_up (zz_cs I 379 h) 380 n (vp_nar .boolean (nI 1)), J)) := by
  intro μ
  induction μ with
  | zero => intro k h hμ; exact absurd hμ (Nat.not_lt_zero _)
  | succ μ ih =>
    intro k h hμ hk H
    refine Ev.run [(.iload_n 3, 1), (.sipush 144, 3)] (pc' := 138) (L' := [some (.ref 359), some (.int (nI n)), some (.int (nI (520 * n))), some (.int (nI k))]) (S' := [.int (nI 144), .int (nI k)]) rfl (by decide +kernel) rfl ?_
    refine Ev.icmp_ge (off := 44) (tgt := 182) (by decide +kernel) (by decide) (fun h138 => ?_) (fun h138 => ?_)
    · have h138 : k ≥ 144 := zz_bG_t (by omega) (by omega) h138
      refine Ev.run [(.iconst 0, 1), (.istore_n 3, 1)] (pc' := 184) (L' := [some (.ref 359), some (.int (nI n)), some (.int (nI (520 * n))), some (.int (nI 0))]) (S' := []) rfl (by decide +kernel) rfl ?_
      refine l_X7_im2 I J n hn 11 0 h (by omega) (by omega) (IM.wk H (fun c hc j hj q => ?_))
      simp only [dnp] at q ⊢
      rcases Nat.lt_or_ge c 4 with z | z
      · exact Or.inl z
      · have z9 : lnn c = 144 := by rcases (show c = 4 ∨ c = 5 by omega) with e | e <;> rw [e] <;> rfl
        exact Or.inr ⟨by omega, by omega⟩
    · have h138 : k < 144 := zz_bG_f (by omega) (by omega) h138
      refine Ev.run [(.aload_n 0, 1), (.getfield 68, 3), (.iload_n 2, 1), (.bipush 40, 2), (.iadd, 1)] (pc' := 149) (L' := [some (.ref 359), some (.int (nI n)), some (.int (nI (520 * n))), some (.int (nI k))]) (S' := [.int (nI (520 * n) + nI 40), .ref 379]) rfl (by decide +kernel) rfl ?_
      rw [nI_add (520 * n) 40]
      refine Ev.run [(.iload_n 3, 1), (.iadd, 1)] (pc' := 151) (L' := [some (.ref 359), some (.int (nI n)), some (.int (nI (520 * n))), some (.int (nI k))]) (S' := [.int (nI ((520 * n) + 40) + nI k), .ref 379]) rfl (by decide +kernel) rfl ?_
      rw [nI_add ((520 * n) + 40) k]
      refine Ev.run [(.aload_n 0, 1), (.getfield 22, 3), (.iload_n 3, 1)] (pc' := 156) (L' := [some (.ref 359), some (.int (nI n)), some (.int (nI (520 * n))), some (.int (nI k))]) (S' := [.int (nI k), .ref 364, .int (nI (((520 * n) + 40) + k)), .ref 379]) rfl (by decide +kernel) rfl ?_
      refine Ev.iald k (by decide +kernel) (rfl) (rfl) (by omega) (by first | decide | omega) ?_
      dsimp only
      rw [show (zz_cs I 379 h) 364 k = I 364 k from by rw [zz_cs_ne (by decide)]]
      refine Ev.iast (((520 * n) + 40) + k) (by decide +kernel) (rfl) (rfl) (by omega) (by first | decide | omega) ?_
      dsimp only
      rw [zz_cs_up]
      refine Ev.run [(.aload_n 0, 1), (.getfield 68, 3), (.iload_n 2, 1), (.sipush 184, 3), (.iadd, 1)] (pc' := 167) (L' := [some (.ref 359), some (.int (nI n)), some (.int (nI (520 * n))), some (.int (nI k))]) (S' := [.int (nI (520 * n) + nI 184), .ref 379]) rfl (by decide +kernel) rfl ?_
      rw [nI_add (520 * n) 184]
      refine Ev.run [(.iload_n 3, 1), (.iadd, 1)] (pc' := 169) (L' := [some (.ref 359), some (.int (nI n)), some (.int (nI (520 * n))), some (.int (nI k))]) (S' := [.int (nI ((520 * n) + 184) + nI k), .ref 379]) rfl (by decide +kernel) rfl ?_
      rw [nI_add ((520 * n) + 184) k]
      refine Ev.run [(.aload_n 0, 1), (.getfield 25, 3), (.iload_n 3, 1)] (pc' := 174) (L' := [some (.ref 359), some (.int (nI n)), some (.int (nI (520 * n))), some (.int (nI k))]) (S' := [.int (nI k), .ref 365, .int (nI (((520 * n) + 184) + k)), .ref 379]) rfl (by decide +kernel) rfl ?_
      refine Ev.iald k (by decide +kernel) (rfl) (rfl) (by omega) (by first | decide | omega) ?_
      dsimp only
      rw [show (zz_cs I 379 (upd h (((520 * n) + 40) + k) (I 364 k))) 365 k = I 365 k from by rw [zz_cs_ne (by decide)]]
      refine Ev.iast (((520 * n) + 184) + k) (by decide +kernel) (rfl) (rfl) (by omega) (by first | decide | omega) ?_
      dsimp only
      rw [zz_cs_up]
      refine Ev.run [(.iinc 3 1, 3)] (pc' := 179) (L' := [some (.ref 359), some (.int (nI n)), some (.int (nI (520 * n))), some (.int (nI k + 1))]) (S' := []) rfl (by decide +kernel) rfl ?_
      rw [nI_1 k]
      refine Ev.goto (off := (-45)) (tgt := 134) (by decide +kernel) (by decide) ?_
      refine ih (k + 1) _ (by omega) (by omega) (IM.wk ((H.up 4 k (by decide) (show k < 144 by omega) (show _ = 520 * n + 40 + k by omega) rfl).up 5 k (by decide) (show k < 144 by omega) (show _ = 520 * n + 184 + k by omega) rfl) (fun c hc j hj q => ?_))
      simp only [dnp] at q ⊢
      omega

set_option maxRecDepth 100000 in
set_option maxHeartbeats 4000000 in
theorem l_X7_im0 {sc : Nat × (Nat → Int32)} {d : Nat} (I : Nat → Nat → Int32) (J : Nat → Nat → Int64) (n : Nat) (hn : n < 2) : ∀ (μ : Nat) (k : Nat) (h : Nat → Int32), 12 - k < μ → (k ≤ 12) → (IM I n h (dnp 1 4 k)) →  Ev sc (d + 1) 0 0 mX7_image 70 [some (.ref 359), some (.int (nI n)), some (.int (nI (520 * n))), some (.int (nI k))] [] (zz_SH, zz_cs I 379 h, J) (fun r σ => r = some (.int (nI 1)) ∧ ∃ h : Nat → Int32, IM I n h (fun _ _ => True) ∧ σ = (zz_SH, zz_up (zz_cs I 379 h) 380 n (vp_nar .boolean (nI 1)), J)) := by
  intro μ
  induction μ with
  | zero => intro k h hμ; exact absurd hμ (Nat.not_lt_zero _)
  | succ μ ih =>
    intro k h hμ hk H
    refine Ev.run [(.iload_n 3, 1), (.bipush 12, 2)] (pc' := 73) (L' := [some (.ref 359), some (.int (nI n)), some (.int (nI (520 * n))), some (.int (nI k))]) (S' := [.int (nI 12), .int (nI k)]) rfl (by decide +kernel) rfl ?_
    refine Ev.icmp_ge (off := 59) (tgt := 132) (by decide +kernel) (by decide) (fun h73 => ?_) (fun h73 => ?_)
    · have h73 : k ≥ 12 := zz_bG_t (by omega) (by omega) h73
      refine Ev.run [(.iconst 0, 1), (.istore_n 3, 1)] (pc' := 134) (L' := [some (.ref 359), some (.int (nI n)), some (.int (nI (520 * n))), some (.int (nI 0))]) (S' := []) rfl (by decide +kernel) rfl ?_
      refine l_X7_im1 I J n hn 145 0 h (by omega) (by omega) (IM.wk H (fun c hc j hj q => ?_))
      simp only [dnp] at q ⊢
      rcases Nat.lt_or_ge c 1 with z | z
      · exact Or.inl z
      · have z9 : lnn c = 12 := by rcases (show c = 1 ∨ c = 2 ∨ c = 3 by omega) with e | e | e <;> rw [e] <;> rfl
        exact Or.inr ⟨by omega, by omega⟩
    · have h73 : k < 12 := zz_bG_f (by omega) (by omega) h73
      refine Ev.run [(.aload_n 0, 1), (.getfield 68, 3), (.iload_n 2, 1), (.iconst 4, 1), (.iadd, 1)] (pc' := 83) (L' := [some (.ref 359), some (.int (nI n)), some (.int (nI (520 * n))), some (.int (nI k))]) (S' := [.int (nI (520 * n) + nI 4), .ref 379]) rfl (by decide +kernel) rfl ?_
      rw [nI_add (520 * n) 4]
      refine Ev.run [(.iload_n 3, 1), (.iadd, 1)] (pc' := 85) (L' := [some (.ref 359), some (.int (nI n)), some (.int (nI (520 * n))), some (.int (nI k))]) (S' := [.int (nI ((520 * n) + 4) + nI k), .ref 379]) rfl (by decide +kernel) rfl ?_
      rw [nI_add ((520 * n) + 4) k]
      refine Ev.run [(.aload_n 0, 1), (.getfield 13, 3), (.iload_n 3, 1)] (pc' := 90) (L' := [some (.ref 359), some (.int (nI n)), some (.int (nI (520 * n))), some (.int (nI k))]) (S' := [.int (nI k), .ref 361, .int (nI (((520 * n) + 4) + k)), .ref 379]) rfl (by decide +kernel) rfl ?_
      refine Ev.iald k (by decide +kernel) (rfl) (rfl) (by omega) (by first | decide | omega) ?_
      dsimp only
      rw [show (zz_cs I 379 h) 361 k = I 361 k from by rw [zz_cs_ne (by decide)]]
      refine Ev.iast (((520 * n) + 4) + k) (by decide +kernel) (rfl) (rfl) (by omega) (by first | decide | omega) ?_
      dsimp only
      rw [zz_cs_up]
      refine Ev.run [(.aload_n 0, 1), (.getfield 68, 3), (.iload_n 2, 1), (.bipush 16, 2), (.iadd, 1)] (pc' := 100) (L' := [some (.ref 359), some (.int (nI n)), some (.int (nI (520 * n))), some (.int (nI k))]) (S' := [.int (nI (520 * n) + nI 16), .ref 379]) rfl (by decide +kernel) rfl ?_
      rw [nI_add (520 * n) 16]
      refine Ev.run [(.iload_n 3, 1), (.iadd, 1)] (pc' := 102) (L' := [some (.ref 359), some (.int (nI n)), some (.int (nI (520 * n))), some (.int (nI k))]) (S' := [.int (nI ((520 * n) + 16) + nI k), .ref 379]) rfl (by decide +kernel) rfl ?_
      rw [nI_add ((520 * n) + 16) k]
      refine Ev.run [(.aload_n 0, 1), (.getfield 16, 3), (.iload_n 3, 1)] (pc' := 107) (L' := [some (.ref 359), some (.int (nI n)), some (.int (nI (520 * n))), some (.int (nI k))]) (S' := [.int (nI k), .ref 362, .int (nI (((520 * n) + 16) + k)), .ref 379]) rfl (by decide +kernel) rfl ?_
      refine Ev.iald k (by decide +kernel) (rfl) (rfl) (by omega) (by first | decide | omega) ?_
      dsimp only
      rw [show (zz_cs I 379 (upd h (((520 * n) + 4) + k) (I 361 k))) 362 k = I 362 k from by rw [zz_cs_ne (by decide)]]
      refine Ev.iast (((520 * n) + 16) + k) (by decide +kernel) (rfl) (rfl) (by omega) (by first | decide | omega) ?_
      dsimp only
      rw [zz_cs_up]
      refine Ev.run [(.aload_n 0, 1), (.getfield 68, 3), (.iload_n 2, 1), (.bipush 28, 2), (.iadd, 1)] (pc' := 117) (L' := [some (.ref 359), some (.int (nI n)), some (.int (nI (520 * n))), some (.int (nI k))]) (S' := [.int (nI (520 * n) + nI 28), .ref 379]) rfl (by decide +kernel) rfl ?_
      rw [nI_add (520 * n) 28]
      refine Ev.run [(.iload_n 3, 1), (.iadd, 1)] (pc' := 119) (L' := [some (.ref 359), some (.int (nI n)), some (.int (nI (520 * n))), some (.int (nI k))]) (S' := [.int (nI ((520 * n) + 28) + nI k), .ref 379]) rfl (by decide +kernel) rfl ?_
      rw [nI_add ((520 * n) + 28) k]
      refine Ev.run [(.aload_n 0, 1), (.getfield 19, 3), (.iload_n 3, 1)] (pc' := 124) (L' := [some (.ref 359), some (.int (nI n)), some (.int (nI (520 * n))), some (.int (nI k))]) (S' := [.int (nI k), .ref 363, .int (nI (((520 * n) + 28) + k)), .ref 379]) rfl (by decide +kernel) rfl ?_
      refine Ev.iald k (by decide +kernel) (rfl) (rfl) (by omega) (by first | decide | omega) ?_
      dsimp only
      rw [show (zz_cs I 379 (upd (upd h (((520 * n) + 4) + k) (I 361 k)) (((520 * n) + 16) + k) (I 362 k))) 363 k = I 363 k from by rw [zz_cs_ne (by decide)]]
      refine Ev.iast (((520 * n) + 28) + k) (by decide +kernel) (rfl) (rfl) (by omega) (by first | decide | omega) ?_
      dsimp only
      rw [zz_cs_up]
      refine Ev.run [(.iinc 3 1, 3)] (pc' := 129) (L' := [some (.ref 359), some (.int (nI n)), some (.int (nI (520 * n))), some (.int (nI k + 1))]) (S' := []) rfl (by decide +kernel) rfl ?_
      rw [nI_1 k]
      refine Ev.goto (off := (-59)) (tgt := 70) (by decide +kernel) (by decide) ?_
      refine ih (k + 1) _ (by omega) (by omega) (IM.wk (((H.up 1 k (by decide) (show k < 12 by omega) (show _ = 520 * n + 4 + k by omega) rfl).up 2 k (by decide) (show k < 12 by omega) (show _ = 520 * n + 16 + k by omega) rfl).up 3 k (by decide) (show k < 12 by omega) (show _ = 520 * n + 28 + k by omega) rfl) (fun c hc j hj q => ?_))
      simp only [dnp] at q ⊢
      omega

set_option maxRecDepth 100000 in
set_option maxHeartbeats 4000000 in
theorem c_X7_image_o {sc : Nat × (Nat → Int32)} {d : Nat} (I : Nat → Nat → Int32) (J : Nat → Nat → Int64) (x : Int32) (hx : ¬ zz_ix x 2) : EvM sc (d + 1) 0 0 mX7_image [.ref 359, .int x] (zz_SH, I, J) (zz_is (.int (-2)) (zz_SH, I, J)) := by
  refine EvM.of (by decide) rfl (Nat.le_of_ble_eq_true rfl) ?_
  show Ev _ _ _ _ _ 0 [some (.ref 359), some (.int x), none, none] [] (zz_SH, I, J) _
  refine Ev.run [(.iload_n 1, 1), (.iconst 0, 1), (.iconst 1, 1)] (pc' := 3) (L' := [some (.ref 359), some (.int x), none, none]) (S' := [.int (nI 1), .int (nI 0), .int x]) rfl (by decide +kernel) rfl ?_
  refine Ev.callS0 mX7_in [.int x, .int (nI 0), .int (nI 1)] [] _ rfl lk_RX7_79 (by decide +kernel) rfl (Nat.le_of_ble_eq_true rfl) (c_X7_in I J x (nI 0) (nI 1)) ?_
  rintro _ _ ⟨rfl, ⟨rfl, h3⟩ | ⟨rfl, h3⟩⟩
  · rw [show (nI 1 : Int32) = nI 2 - nI 1 by decide, zz_ix_iff (by decide)] at h3; exact absurd h3 hx
  · show Ev _ _ _ _ _ 6 [some (.ref 359), some (.int x), none, none] [.int (nI 0)] (zz_SH, I, J) _
    refine Ev.if_ne (off := 6) (tgt := 12) (by decide +kernel) (by decide) (fun h6 => absurd h6 (by decide)) (fun h6 => ?_)
    refine Ev.run [(.bipush (-2), 2)] (pc' := 11) (L' := [some (.ref 359), some (.int x), none, none]) (S' := [.int ((-2))]) rfl (by decide +kernel) rfl ?_
    exact Ev.iret rfl (by decide +kernel) (⟨rfl, rfl⟩)

set_option maxRecDepth 100000 in
set_option maxHeartbeats 4000000 in
theorem c_X7_image_k {sc : Nat × (Nat → Int32)} {d : Nat} (I : Nat → Nat → Int32) (J : Nat → Nat → Int64) (n : Nat) (hn : n < 2) : EvM sc (d + 1) 0 0 mX7_image [.ref 359, .int (nI n)] (zz_SH, I, J) (fun r σ => r = some (.int (nI 1)) ∧ ∃ h : Nat → Int32, IM I n h (fun _ _ => True) ∧ σ = (zz_SH, zz_up (zz_cs I 379 h) 380 n (vp_nar .boolean (nI 1)), J)) := by
  refine EvM.of (by decide) rfl (Nat.le_of_ble_eq_true rfl) ?_
  show Ev _ _ _ _ _ 0 [some (.ref 359), some (.int (nI n)), none, none] [] (zz_SH, I, J) _
  refine Ev.run [(.iload_n 1, 1), (.iconst 0, 1), (.iconst 1, 1)] (pc' := 3) (L' := [some (.ref 359), some (.int (nI n)), none, none]) (S' := [.int (nI 1), .int (nI 0), .int (nI n)]) rfl (by decide +kernel) rfl ?_
  refine Ev.callS0 mX7_in [.int (nI n), .int (nI 0), .int (nI 1)] [] _ rfl lk_RX7_79 (by decide +kernel) rfl (Nat.le_of_ble_eq_true rfl) (c_X7_in I J (nI n) (nI 0) (nI 1)) ?_
  rintro _ _ ⟨rfl, ⟨rfl, h3⟩ | ⟨rfl, h3⟩⟩
  · show Ev _ _ _ _ _ 6 [some (.ref 359), some (.int (nI n)), none, none] [.int (nI 1)] (zz_SH, I, J) _
    refine Ev.if_ne (off := 6) (tgt := 12) (by decide +kernel) (by decide) (fun h6 => ?_) (fun h6 => absurd h6 (by decide))
    refine Ev.run [(.sipush 520, 3), (.iload_n 1, 1), (.imul, 1)] (pc' := 17) (L' := [some (.ref 359), some (.int (nI n)), none, none]) (S' := [.int (nI 520 * nI n)]) rfl (by decide +kernel) rfl ?_
    rw [pk_mul 520 n]
    refine Ev.run [(.istore_n 2, 1), (.aload_n 0, 1), (.getfield 68, 3), (.iload_n 2, 1), (.aload_n 0, 1), (.getfield 75, 3)] (pc' := 27) (L' := [some (.ref 359), some (.int (nI n)), some (.int (nI (520 * n))), none]) (S' := [.int (I 359 2), .int (nI (520 * n)), .ref 379]) rfl (by decide +kernel) rfl ?_
    refine Ev.iast (520 * n) (by decide +kernel) (rfl) (rfl) (by omega) (by first | decide | omega) ?_
    dsimp only
    rw [zz_up_cs]
    refine Ev.run [(.aload_n 0, 1), (.getfield 68, 3), (.iload_n 2, 1), (.iconst 1, 1), (.iadd, 1)] (pc' := 35) (L' := [some (.ref 359), some (.int (nI n)), some (.int (nI (520 * n))), none]) (S' := [.int (nI (520 * n) + nI 1), .ref 379]) rfl (by decide +kernel) rfl ?_
    rw [nI_add (520 * n) 1]
    refine Ev.run [(.aload_n 0, 1), (.getfield 83, 3)] (pc' := 39) (L' := [some (.ref 359), some (.int (nI n)), some (.int (nI (520 * n))), none]) (S' := [.int ((zz_cs I 379 (upd (I 379) (520 * n) (I 359 2))) 359 8), .int (nI ((520 * n) + 1)), .ref 379]) rfl (by decide +kernel) rfl ?_
    rw [show (zz_cs I 379 (upd (I 379) (520 * n) (I 359 2))) 359 8 = I 359 8 from by rw [zz_cs_ne (by decide)]]
    refine Ev.iast ((520 * n) + 1) (by decide +kernel) (rfl) (rfl) (by omega) (by first | decide | omega) ?_
    dsimp only
    rw [zz_cs_up]
    refine Ev.run [(.aload_n 0, 1), (.getfield 68, 3), (.iload_n 2, 1), (.iconst 2, 1), (.iadd, 1)] (pc' := 47) (L' := [some (.ref 359), some (.int (nI n)), some (.int (nI (520 * n))), none]) (S' := [.int (nI (520 * n) + nI 2), .ref 379]) rfl (by decide +kernel) rfl ?_
    rw [nI_add (520 * n) 2]
    refine Ev.run [(.aload_n 0, 1), (.getfield 40, 3), (.iconst 0, 1)] (pc' := 52) (L' := [some (.ref 359), some (.int (nI n)), some (.int (nI (520 * n))), none]) (S' := [.int (nI 0), .ref 370, .int (nI ((520 * n) + 2)), .ref 379]) rfl (by decide +kernel) rfl ?_
    refine Ev.iald 0 (by decide +kernel) (rfl) (rfl) (by omega) (by first | decide | omega) ?_
    dsimp only
    rw [show (zz_cs I 379 (upd (upd (I 379) (520 * n) (I 359 2)) ((520 * n) + 1) (I 359 8))) 370 0 = I 370 0 from by rw [zz_cs_ne (by decide)]]
    refine Ev.iast ((520 * n) + 2) (by decide +kernel) (rfl) (rfl) (by omega) (by first | decide | omega) ?_
    dsimp only
    rw [zz_cs_up]
    refine Ev.run [(.aload_n 0, 1), (.getfield 68, 3), (.iload_n 2, 1), (.iconst 3, 1), (.iadd, 1)] (pc' := 61) (L' := [some (.ref 359), some (.int (nI n)), some (.int (nI (520 * n))), none]) (S' := [.int (nI (520 * n) + nI 3), .ref 379]) rfl (by decide +kernel) rfl ?_
    rw [nI_add (520 * n) 3]
    refine Ev.run [(.aload_n 0, 1), (.getfield 40, 3), (.iconst 1, 1)] (pc' := 66) (L' := [some (.ref 359), some (.int (nI n)), some (.int (nI (520 * n))), none]) (S' := [.int (nI 1), .ref 370, .int (nI ((520 * n) + 3)), .ref 379]) rfl (by decide +kernel) rfl ?_
    refine Ev.iald 1 (by decide +kernel) (rfl) (rfl) (by omega) (by first | decide | omega) ?_
    dsimp only
    rw [show (zz_cs I 379 (upd (upd (upd (I 379) (520 * n) (I 359 2)) ((520 * n) + 1) (I 359 8)) ((520 * n) + 2) (I 370 0))) 370 1 = I 370 1 from by rw [zz_cs_ne (by decide)]]
    refine Ev.iast ((520 * n) + 3) (by decide +kernel) (rfl) (rfl) (by omega) (by first | decide | omega) ?_
    dsimp only
    rw [zz_cs_up]
    refine Ev.run [(.iconst 0, 1), (.istore_n 3, 1)] (pc' := 70) (L' := [some (.ref 359), some (.int (nI n)), some (.int (nI (520 * n))), some (.int (nI 0))]) (S' := []) rfl (by decide +kernel) rfl ?_
    have IM0 : IM I n (I 379) (fun _ _ => False) := ⟨fun c hc j hj q => q.elim, fun x hx => rfl⟩
    refine l_X7_im0 I J n hn 13 0 _ (by omega) (by omega) (IM.wk ((((IM0.up 0 0 (by decide) (by decide) (show _ = 520 * n + 0 + 0 by omega) rfl).up 0 1 (by decide) (by decide) (show _ = 520 * n + 0 + 1 by omega) rfl).up 0 2 (by decide) (by decide) (show _ = 520 * n + 0 + 2 by omega) rfl).up 0 3 (by decide) (by decide) (show _ = 520 * n + 0 + 3 by omega) rfl) (fun c hc j hj q => ?_))
    simp only [dnp] at q ⊢
    have z9 : lnn c = 4 := by rw [show c = 0 by omega]; rfl
    omega
  · exact absurd ((zz_rng (by decide) (by decide) (by omega)).mpr ⟨Nat.zero_le n, by omega⟩) h3
