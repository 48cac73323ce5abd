/-! ===== the model: otherwise ===== -/
def setG (A : zA) (g : Nat → Nat → Nat) : zA := (A.1, A.2.1, (ff A, g, tt A), A.2.2.2)
theorem MV_setG {I I' : Nat → Nat → Int32} {A : zA} {g : Nat → Nat → Nat} (hV : MV (zVm I) A) (hc : ∀ c, c ≠ 365 → I' c = I c) (hg : ∀ t, t < aN A → ∀ j, j < gz A t → I' 365 (12 * t + j) = nI (g t j)) : MV (zVm I') (setG A g) := by
  obtain ⟨⟨v1, v2, v3, v4⟩, v5, v6, v7, v8, v9, v10⟩ := hV
  refine ⟨⟨(congrFun (hc 359 (by decide)) 2).trans v1, (congrFun (hc 359 (by decide)) 8).trans v2, (congrFun (hc 370 (by decide)) 0).trans v3, (congrFun (hc 370 (by decide)) 1).trans v4⟩, fun p hp => ?_, fun s hs => ?_, fun r hr => ?_, fun w hw => ?_, fun j hj => ?_, fun j hj => ?_⟩
  · obtain ⟨a1, a2, a3, a4, a5⟩ := v5 p hp
    exact ⟨(congrFun (hc 361 (by decide)) p).trans a1, (congrFun (hc 362 (by decide)) p).trans a2, (congrFun (hc 363 (by decide)) p).trans a3, fun j hj => (congrFun (hc 364 (by decide)) _).trans (a4 j hj), fun j hj => hg p hp j hj⟩
  · exact ⟨(congrFun (hc 366 (by decide)) s).trans (v6 s hs).1, fun j hj => (congrFun (hc 367 (by decide)) _).trans ((v6 s hs).2 j hj)⟩
  · exact (congrFun (hc 368 (by decide)) r).trans (v7 r hr)
  · exact (congrFun (hc 369 (by decide)) w).trans (v8 w hw)
  · exact (congrFun (hc 371 (by decide)) j).trans (v9 j hj)
  · exact (congrFun (hc 371 (by decide)) _).trans (v10 j hj)
theorem WF_setG {A : zA} {g : Nat → Nat → Nat} (hW : WF A) (hg : ∀ t, t < aN A → ∀ j, j < gz A t → 33 ≤ g t j ∧ g t j ≤ 126) : WF (setG A g) := by
  obtain ⟨w1, w2, w3⟩ := hW
  exact ⟨w1, fun p hp => ⟨(w2 p hp).1, (w2 p hp).2.1, fun j hj => hg p hp j hj, (w2 p hp).2.2.2⟩, w3⟩
def otg (A : zA) (w u b t j : Nat) : Nat := if 0 < cF A t w ∧ gg A t j = 65 + u then 65 + b else gg A t j
theorem otg_r {A : zA} (hW : WF A) {w u b : Nat} (hb : b < 16) (t : Nat) (ht : t < aN A) (j : Nat) (hj : j < gz A t) : 33 ≤ otg A w u b t j ∧ otg A w u b t j ≤ 126 := by
  have := (hW.2.1 t ht).2.2.1 j hj
  unfold otg
  split <;> omega
theorem otg_0 {A : zA} {w u b t j : Nat} (h : cF A t w ≤ 0) : otg A w u b t j = gg A t j := by
  rw [otg, if_neg (by omega)]
def oc (A : zA) (w u : Nat) : Nat → Nat
  | 0 => 0
  | n + 1 => oc A w u n + if 0 < cF A n w then cG A n u else 0
theorem oc_le {A : zA} (hW : WF A) (w u : Nat) : ∀ n, n ≤ aN A → oc A w u n ≤ 12 * n
  | 0, _ => Nat.le_refl _
  | n + 1, h => by have := oc_le hW w u n (by omega); have := cG_le hW (show n < aN A by omega) u; rw [oc]; split <;> omega

set_option maxRecDepth 100000 in
set_option maxHeartbeats 4000000 in
theorem c_X7_otherwise_u {sc : Nat × (Nat → Int32)} {d : Nat} (I : Nat → Nat → Int32) (J : Nat → Nat → Int64) (x y z : Int32) (hx : ¬ (zz_ix x 16 ∧ zz_ix y 16 ∧ zz_ix z 16)) : EvM sc (d + 2) 0 0 mX7_otherwise [.ref 359, .int x, .int y, .int z] (zz_SH, I, J) (zz_is (.int (-1)) (zz_SH, I, J)) := by
  refine EvM.of (by decide) rfl (Nat.le_of_ble_eq_true rfl) ?_
  show Ev _ _ _ _ _ 0 [some (.ref 359), some (.int x), some (.int y), some (.int z), none, none, none] [] (zz_SH, I, J) _
  refine Ev.run [(.iload_n 1, 1)] (pc' := 1) (L' := [some (.ref 359), some (.int x), some (.int y), some (.int z), none, none, none]) (S' := [.int x]) rfl (by decide +kernel) rfl ?_
  refine Ev.callS0 mX7_isWord [.int x] [] _ rfl lk_RX7_162 (by decide +kernel) rfl (Nat.le_of_ble_eq_true rfl) (c_X7_isWord I J x) ?_
  rintro _ _ ⟨rfl, ⟨rfl, h1⟩ | ⟨rfl, h1⟩⟩
  · show Ev _ _ _ _ _ 4 [some (.ref 359), some (.int x), some (.int y), some (.int z), none, none, none] [.int (nI 1)] (zz_SH, I, J) _
    refine Ev.if_eq (off := 17) (tgt := 21) (by decide +kernel) (by decide) (fun h4 => absurd h4 (by decide)) (fun h4 => ?_)
    refine Ev.run [(.iload_n 2, 1)] (pc' := 8) (L' := [some (.ref 359), some (.int x), some (.int y), some (.int z), none, none, none]) (S' := [.int y]) rfl (by decide +kernel) rfl ?_
    refine Ev.callS0 mX7_isWord [.int y] [] _ rfl lk_RX7_162 (by decide +kernel) rfl (Nat.le_of_ble_eq_true rfl) (c_X7_isWord I J y) ?_
    rintro _ _ ⟨rfl, ⟨rfl, h8⟩ | ⟨rfl, h8⟩⟩
    · show Ev _ _ _ _ _ 11 [some (.ref 359), some (.int x), some (.int y), some (.int z), none, none, none] [.int (nI 1)] (zz_SH, I, J) _
      refine Ev.if_eq (off := 10) (tgt := 21) (by decide +kernel) (by decide) (fun h11 => absurd h11 (by decide)) (fun h11 => ?_)
      refine Ev.run [(.iload_n 3, 1)] (pc' := 15) (L' := [some (.ref 359), some (.int x), some (.int y), some (.int z), none, none, none]) (S' := [.int z]) rfl (by decide +kernel) rfl ?_
      refine Ev.callS0 mX7_isWord [.int z] [] _ rfl lk_RX7_162 (by decide +kernel) rfl (Nat.le_of_ble_eq_true rfl) (c_X7_isWord I J z) ?_
      rintro _ _ ⟨rfl, ⟨rfl, h15⟩ | ⟨rfl, h15⟩⟩
      · exact absurd ⟨h1, h8, h15⟩ hx
      · show Ev _ _ _ _ _ 18 [some (.ref 359), some (.int x), some (.int y), some (.int z), none, none, none] [.int (nI 0)] (zz_SH, I, J) _
        refine Ev.if_ne (off := 5) (tgt := 23) (by decide +kernel) (by decide) (fun h18 => absurd h18 (by decide)) (fun h18 => ?_)
        refine Ev.run [(.iconst (-1), 1)] (pc' := 22) (L' := [some (.ref 359), some (.int x), some (.int y), some (.int z), none, none, none]) (S' := [.int ((-1))]) rfl (by decide +kernel) rfl ?_
        exact Ev.iret rfl (by decide +kernel) (⟨rfl, rfl⟩)
    · show Ev _ _ _ _ _ 11 [some (.ref 359), some (.int x), some (.int y), some (.int z), none, none, none] [.int (nI 0)] (zz_SH, I, J) _
      refine Ev.if_eq (off := 10) (tgt := 21) (by decide +kernel) (by decide) (fun h11 => ?_) (fun h11 => absurd h11 (by decide))
      refine Ev.run [(.iconst (-1), 1)] (pc' := 22) (L' := [some (.ref 359), some (.int x), some (.int y), some (.int z), none, none, none]) (S' := [.int ((-1))]) rfl (by decide +kernel) rfl ?_
      exact Ev.iret rfl (by decide +kernel) (⟨rfl, rfl⟩)
  · show Ev _ _ _ _ _ 4 [some (.ref 359), some (.int x), some (.int y), some (.int z), none, none, none] [.int (nI 0)] (zz_SH, I, J) _
    refine Ev.if_eq (off := 17) (tgt := 21) (by decide +kernel) (by decide) (fun h4 => ?_) (fun h4 => absurd h4 (by decide))
    refine Ev.run [(.iconst (-1), 1)] (pc' := 22) (L' := [some (.ref 359), some (.int x), some (.int y), some (.int z), none, none, none]) (S' := [.int ((-1))]) rfl (by decide +kernel) rfl ?_
    exact Ev.iret rfl (by decide +kernel) (⟨rfl, rfl⟩)

set_option maxRecDepth 100000 in
set_option maxHeartbeats 4000000 in
theorem l_X7_oe {sc : Nat × (Nat → Int32)} {d : Nat} (I : Nat → Nat → Int32) (J : Nat → Nat → Int64) (A : zA) (hV : MV (zVm I) A) (hW : WF A) (w u b : Nat) (hw : w < 16) (hu : u < 16) (hb : b < 16) (hub : u = b) : ∀ (μ : Nat) (p : Nat), aN A - p < μ → (p ≤ aN A) →  Ev sc (d + 2) 0 0 mX7_otherwise 29 [some (.ref 359), some (.int (nI w)), some (.int (nI u)), some (.int (nI b)), some (.int (nI 0)), some (.int (nI p)), none] [] (zz_SH, I, J) (zz_is (.int (nI 0)) (zz_SH, I, J)) := by
  intro μ
  induction μ with
  | zero => intro p hμ; exact absurd hμ (Nat.not_lt_zero _)
  | succ μ ih =>
    intro p hμ hp
    have w1 := hW.1.1
    have w2 := hW.1.2.1
    refine Ev.run [(.iload 5, 2), (.aload_n 0, 1), (.getfield 75, 3)] (pc' := 35) (L' := [some (.ref 359), some (.int (nI w)), some (.int (nI u)), some (.int (nI b)), some (.int (nI 0)), some (.int (nI p)), none]) (S' := [.int (I 359 2), .int (nI p)]) rfl (by decide +kernel) rfl ?_
    rw [show I 359 2 = nI (aN A) from hV.1.1]
    refine Ev.icmp_ge (off := 114) (tgt := 149) (by decide +kernel) (by decide) (fun h35 => ?_) (fun h35 => ?_)
    · have h35 : p ≥ (aN A) := zz_bG_t (by omega) (by omega) h35
      refine Ev.run [(.iload 4, 2)] (pc' := 151) (L' := [some (.ref 359), some (.int (nI w)), some (.int (nI u)), some (.int (nI b)), some (.int (nI 0)), some (.int (nI p)), none]) (S' := [.int (nI 0)]) rfl (by decide +kernel) rfl ?_
      exact Ev.iret rfl (by decide +kernel) (⟨rfl, rfl⟩)
    · have h35 : p < (aN A) := zz_bG_f (by omega) (by omega) h35
      refine Ev.run [(.aload_n 0, 1), (.iload 5, 2), (.iload_n 1, 1)] (pc' := 42) (L' := [some (.ref 359), some (.int (nI w)), some (.int (nI u)), some (.int (nI b)), some (.int (nI 0)), some (.int (nI p)), none]) (S' := [.int (nI w), .int (nI p), .ref 359]) rfl (by decide +kernel) rfl ?_
      refine Ev.callV0 mX7_inFirst [.int (nI p), .int (nI w)] [] _ rfl lk_RX7_165 (by decide +kernel) (rfl) rfl rfl rfl (Nat.le_of_ble_eq_true rfl) (c_X7_inFirst I J A hV hW p w (by omega) hw) ?_
      rintro _ _ ⟨rfl, rfl⟩
      have c1 := cF_le hW (show p < aN A by omega) w
      show Ev _ _ _ _ _ 45 [some (.ref 359), some (.int (nI w)), some (.int (nI u)), some (.int (nI b)), some (.int (nI 0)), some (.int (nI p)), none] [.int (nI (cF A p w))] (zz_SH, I, J) _
      refine Ev.if_le (off := 98) (tgt := 143) (by decide +kernel) (by decide) (fun h45 => ?_) (fun h45 => ?_)
      · have h45 : (cF A p w) ≤ 0 := zz_bG'_t (by omega) (by omega) h45
        refine Ev.run [(.iinc 5 1, 3)] (pc' := 146) (L' := [some (.ref 359), some (.int (nI w)), some (.int (nI u)), some (.int (nI b)), some (.int (nI 0)), some (.int (nI p + 1)), none]) (S' := []) rfl (by decide +kernel) rfl ?_
        rw [nI_1 p]
        refine Ev.goto (off := (-117)) (tgt := 29) (by decide +kernel) (by decide) ?_
        exact ih (p + 1) (by omega) (by omega)
      · have h45 : (cF A p w) > 0 := zz_bG'_f (by omega) (by omega) h45
        refine Ev.run [(.iload_n 2, 1), (.iload_n 3, 1)] (pc' := 50) (L' := [some (.ref 359), some (.int (nI w)), some (.int (nI u)), some (.int (nI b)), some (.int (nI 0)), some (.int (nI p)), none]) (S' := [.int (nI b), .int (nI u)]) rfl (by decide +kernel) rfl ?_
        refine Ev.icmp_eq (off := 93) (tgt := 143) (by decide +kernel) (by decide) (fun h50 => ?_) (fun h50 => ?_)
        · have h50 : u = b := zz_bE_t (by omega) (by omega) h50
          refine Ev.run [(.iinc 5 1, 3)] (pc' := 146) (L' := [some (.ref 359), some (.int (nI w)), some (.int (nI u)), some (.int (nI b)), some (.int (nI 0)), some (.int (nI p + 1)), none]) (S' := []) rfl (by decide +kernel) rfl ?_
          rw [nI_1 p]
          refine Ev.goto (off := (-117)) (tgt := 29) (by decide +kernel) (by decide) ?_
          exact ih (p + 1) (by omega) (by omega)
        · have h50 : ¬ u = b := zz_bE_f (by omega) (by omega) h50
          exfalso; omega

set_option maxRecDepth 100000 in
set_option maxHeartbeats 4000000 in
theorem c_X7_otherwise_e {sc : Nat × (Nat → Int32)} {d : Nat} (I : Nat → Nat → Int32) (J : Nat → Nat → Int64) (A : zA) (hV : MV (zVm I) A) (hW : WF A) (w u b : Nat) (hw : w < 16) (hu : u < 16) (hb : b < 16) (hub : u = b) : EvM sc (d + 2) 0 0 mX7_otherwise [.ref 359, .int (nI w), .int (nI u), .int (nI b)] (zz_SH, I, J) (zz_is (.int (nI 0)) (zz_SH, I, J)) := by
  have w1 := hW.1.1
  have w2 := hW.1.2.1
  refine EvM.of (by decide) rfl (Nat.le_of_ble_eq_true rfl) ?_
  show Ev _ _ _ _ _ 0 [some (.ref 359), some (.int (nI w)), some (.int (nI u)), some (.int (nI b)), none, none, none] [] (zz_SH, I, J) _
  refine Ev.run [(.iload_n 1, 1)] (pc' := 1) (L' := [some (.ref 359), some (.int (nI w)), some (.int (nI u)), some (.int (nI b)), none, none, none]) (S' := [.int (nI w)]) rfl (by decide +kernel) rfl ?_
  refine Ev.callS0 mX7_isWord [.int (nI w)] [] _ rfl lk_RX7_162 (by decide +kernel) rfl (Nat.le_of_ble_eq_true rfl) (c_X7_isWord I J (nI w)) ?_
  rintro _ _ ⟨rfl, ⟨rfl, h1⟩ | ⟨rfl, h1⟩⟩
  · show Ev _ _ _ _ _ 4 [some (.ref 359), some (.int (nI w)), some (.int (nI u)), some (.int (nI b)), none, none, none] [.int (nI 1)] (zz_SH, I, J) _
    refine Ev.if_eq (off := 17) (tgt := 21) (by decide +kernel) (by decide) (fun h4 => absurd h4 (by decide)) (fun h4 => ?_)
    refine Ev.run [(.iload_n 2, 1)] (pc' := 8) (L' := [some (.ref 359), some (.int (nI w)), some (.int (nI u)), some (.int (nI b)), none, none, none]) (S' := [.int (nI u)]) rfl (by decide +kernel) rfl ?_
    refine Ev.callS0 mX7_isWord [.int (nI u)] [] _ rfl lk_RX7_162 (by decide +kernel) rfl (Nat.le_of_ble_eq_true rfl) (c_X7_isWord I J (nI u)) ?_
    rintro _ _ ⟨rfl, ⟨rfl, h8⟩ | ⟨rfl, h8⟩⟩
    · show Ev _ _ _ _ _ 11 [some (.ref 359), some (.int (nI w)), some (.int (nI u)), some (.int (nI b)), none, none, none] [.int (nI 1)] (zz_SH, I, J) _
      refine Ev.if_eq (off := 10) (tgt := 21) (by decide +kernel) (by decide) (fun h11 => absurd h11 (by decide)) (fun h11 => ?_)
      refine Ev.run [(.iload_n 3, 1)] (pc' := 15) (L' := [some (.ref 359), some (.int (nI w)), some (.int (nI u)), some (.int (nI b)), none, none, none]) (S' := [.int (nI b)]) rfl (by decide +kernel) rfl ?_
      refine Ev.callS0 mX7_isWord [.int (nI b)] [] _ rfl lk_RX7_162 (by decide +kernel) rfl (Nat.le_of_ble_eq_true rfl) (c_X7_isWord I J (nI b)) ?_
      rintro _ _ ⟨rfl, ⟨rfl, h15⟩ | ⟨rfl, h15⟩⟩
      · show Ev _ _ _ _ _ 18 [some (.ref 359), some (.int (nI w)), some (.int (nI u)), some (.int (nI b)), none, none, none] [.int (nI 1)] (zz_SH, I, J) _
        refine Ev.if_ne (off := 5) (tgt := 23) (by decide +kernel) (by decide) (fun h18 => ?_) (fun h18 => absurd h18 (by decide))
        refine Ev.run [(.iconst 0, 1), (.istore 4, 2), (.iconst 0, 1), (.istore 5, 2)] (pc' := 29) (L' := [some (.ref 359), some (.int (nI w)), some (.int (nI u)), some (.int (nI b)), some (.int (nI 0)), some (.int (nI 0)), none]) (S' := []) rfl (by decide +kernel) rfl ?_
        exact l_X7_oe I J A hV hW w u b hw hu hb hub (aN A + 1) 0 (by omega) (by omega)
      · exact absurd ⟨b, hb, rfl⟩ h15
    · exact absurd ⟨u, hu, rfl⟩ h8
  · exact absurd ⟨w, hw, rfl⟩ h1

set_option maxRecDepth 100000 in
set_option maxHeartbeats 4000000 in
theorem l_X7_ok1 {sc : Nat × (Nat → Int32)} {d : Nat} (I : Nat → Nat → Int32) (J : Nat → Nat → Int64) (A : zA) (hV : MV (zVm I) A) (hW : WF A) (w u b : Nat) (hw : w < 16) (hu : u < 16) (hb : b < 16) (hub : ¬ u = b) (p : Nat) (hp : p < aN A) (hcf : 0 < cF A p w) (hout : ∀ I2 : Nat → Nat → Int32, (∀ c, c ≠ 365 → I2 c = I c) → (∀ t, t < aN A → ∀ j, j < gz A t → I2 365 (12 * t + j) = nI (if t < p + 1 then otg A w u b t j else gg A t j)) → Ev sc (d + 2) 0 0 mX7_otherwise 143 [some (.ref 359), some (.int (nI w)), some (.int (nI u)), some (.int (nI b)), some (.int (nI (oc A w u p + cG A p u))), some (.int (nI p)), none] [] (zz_SH, I2, J) (fun r σ => r = some (.int (nI (oc A w u (aN A)))) ∧ ∃ I' : Nat → Nat → Int32, (∀ c, c ≠ 365 → I' c = I c) ∧ MV (zVm I') (setG A (otg A w u b)) ∧ σ = (zz_SH, I', J))) : ∀ (μ : Nat) (i : Nat) (I1 : Nat → Nat → Int32), gz A p - i < μ → (i ≤ gz A p) → (∀ c, c ≠ 365 → I1 c = I c) → (∀ t, t < aN A → ∀ j, j < gz A t → I1 365 (12 * t + j) = nI (if t < p ∨ (t = p ∧ j < i) then otg A w u b t j else gg A t j)) →  Ev sc (d + 2) 0 0 mX7_otherwise 60 [some (.ref 359), some (.int (nI w)), some (.int (nI u)), some (.int (nI b)), some (.int (nI (oc A w u p + ctN (gg A p) (65 + u) i))), some (.int (nI p)), some (.int (nI (12 * p + i)))] [] (zz_SH, I1, J) (fun r σ => r = some (.int (nI (oc A w u (aN A)))) ∧ ∃ I' : Nat → Nat → Int32, (∀ c, c ≠ 365 → I' c = I c) ∧ MV (zVm I') (setG A (otg A w u b)) ∧ σ = (zz_SH, I', J)) := by
  intro μ
  induction μ with
  | zero => intro i I1 hμ; exact absurd hμ (Nat.not_lt_zero _)
  | succ μ ih =>
    intro i I1 hμ hi hc hg
    have w1 := hW.1.1
    have w2 := hW.1.2.1
    have z1 := (hW.2.1 p hp).1
    have c1 := oc_le hW w u p (by omega)
    have c2 := ctN_le (gg A p) (65 + u) i
    refine Ev.run [(.iload 6, 2), (.bipush 12, 2), (.iload 5, 2), (.imul, 1)] (pc' := 67) (L' := [some (.ref 359), some (.int (nI w)), some (.int (nI u)), some (.int (nI b)), some (.int (nI (oc A w u p + ctN (gg A p) (65 + u) i))), some (.int (nI p)), some (.int (nI (12 * p + i)))]) (S' := [.int (nI 12 * nI p), .int (nI (12 * p + i))]) rfl (by decide +kernel) rfl ?_
    rw [pk_mul 12 p]
    refine Ev.run [(.aload_n 0, 1), (.getfield 19, 3), (.iload 5, 2)] (pc' := 73) (L' := [some (.ref 359), some (.int (nI w)), some (.int (nI u)), some (.int (nI b)), some (.int (nI (oc A w u p + ctN (gg A p) (65 + u) i))), some (.int (nI p)), some (.int (nI (12 * p + i)))]) (S' := [.int (nI p), .ref 363, .int (nI (12 * p)), .int (nI (12 * p + i))]) rfl (by decide +kernel) rfl ?_
    refine Ev.iald p (by decide +kernel) (rfl) (rfl) (by omega) (by first | decide | omega) ?_
    dsimp only
    rw [show I1 363 p = nI (gz A p) from by rw [hc 363 (by decide)]; exact (hV.2.1 p hp).2.2.1]
    refine Ev.run [(.iadd, 1)] (pc' := 75) (L' := [some (.ref 359), some (.int (nI w)), some (.int (nI u)), some (.int (nI b)), some (.int (nI (oc A w u p + ctN (gg A p) (65 + u) i))), some (.int (nI p)), some (.int (nI (12 * p + i)))]) (S' := [.int (nI (12 * p) + nI (gz A p)), .int (nI (12 * p + i))]) rfl (by decide +kernel) rfl ?_
    rw [nI_add (12 * p) (gz A p)]
    refine Ev.icmp_ge (off := 68) (tgt := 143) (by decide +kernel) (by decide) (fun h75 => ?_) (fun h75 => ?_)
    · have h75 : (12 * p + i) ≥ ((12 * p) + (gz A p)) := zz_bG_t (by omega) (by omega) h75
      refine Ev.weakL (L' := [some (.ref 359), some (.int (nI w)), some (.int (nI u)), some (.int (nI b)), some (.int (nI (oc A w u p + ctN (gg A p) (65 + u) i))), some (.int (nI p)), none]) ⟨rfl, rfl, rfl, rfl, rfl, rfl, trivial⟩ ?_
      have hig : gz A p = i := by omega
      rw [show ctN (gg A p) (65 + u) i = cG A p u from by rw [cG, hig]]
      refine hout I1 hc (fun t ht j hj => ?_)
      rw [hg t ht j hj]
      congr 1
      by_cases q : t < p + 1
      · rw [if_pos q, if_pos (by rcases Nat.lt_or_ge t p with z | z; exact Or.inl z; exact Or.inr ⟨by omega, by rw [show t = p by omega] at hj; omega⟩)]
      · rw [if_neg q, if_neg (by omega)]
    · have h75 : (12 * p + i) < ((12 * p) + (gz A p)) := zz_bG_f (by omega) (by omega) h75
      have g1 := (hW.2.1 p hp).2.2.1 i (by omega)
      refine Ev.run [(.iload 4, 2), (.aload_n 0, 1), (.getfield 25, 3), (.iload 6, 2)] (pc' := 86) (L' := [some (.ref 359), some (.int (nI w)), some (.int (nI u)), some (.int (nI b)), some (.int (nI (oc A w u p + ctN (gg A p) (65 + u) i))), some (.int (nI p)), some (.int (nI (12 * p + i)))]) (S' := [.int (nI (12 * p + i)), .ref 365, .int (nI (oc A w u p + ctN (gg A p) (65 + u) i))]) rfl (by decide +kernel) rfl ?_
      refine Ev.iald (12 * p + i) (by decide +kernel) (rfl) (rfl) (by omega) (by first | decide | omega) ?_
      dsimp only
      rw [show I1 365 (12 * p + i) = nI (gg A p i) from by rw [hg p hp i (by omega), if_neg (by omega)]]
      refine Ev.run [(.bipush 65, 2), (.iload_n 2, 1), (.iadd, 1)] (pc' := 91) (L' := [some (.ref 359), some (.int (nI w)), some (.int (nI u)), some (.int (nI b)), some (.int (nI (oc A w u p + ctN (gg A p) (65 + u) i))), some (.int (nI p)), some (.int (nI (12 * p + i)))]) (S' := [.int (nI 65 + nI u), .int (nI (gg A p i)), .int (nI (oc A w u p + ctN (gg A p) (65 + u) i))]) rfl (by decide +kernel) rfl ?_
      rw [nI_add 65 u]
      refine Ev.icmp_ne (off := 7) (tgt := 98) (by decide +kernel) (by decide) (fun h91 => ?_) (fun h91 => ?_)
      · have h91 : ¬ (gg A p i) = (65 + u) := zz_bE_f (by omega) (by omega) h91
        refine Ev.run [(.iconst 0, 1), (.iadd, 1)] (pc' := 100) (L' := [some (.ref 359), some (.int (nI w)), some (.int (nI u)), some (.int (nI b)), some (.int (nI (oc A w u p + ctN (gg A p) (65 + u) i))), some (.int (nI p)), some (.int (nI (12 * p + i)))]) (S' := [.int (nI (oc A w u p + ctN (gg A p) (65 + u) i) + nI 0)]) rfl (by decide +kernel) rfl ?_
        rw [nI_add (oc A w u p + ctN (gg A p) (65 + u) i) 0]
        refine Ev.run [(.istore 4, 2), (.aload_n 0, 1), (.getfield 25, 3), (.iload 6, 2), (.aload_n 0, 1), (.getfield 25, 3), (.iload 6, 2)] (pc' := 114) (L' := [some (.ref 359), some (.int (nI w)), some (.int (nI u)), some (.int (nI b)), some (.int (nI ((oc A w u p + ctN (gg A p) (65 + u) i) + 0))), some (.int (nI p)), some (.int (nI (12 * p + i)))]) (S' := [.int (nI (12 * p + i)), .ref 365, .int (nI (12 * p + i)), .ref 365]) rfl (by decide +kernel) rfl ?_
        refine Ev.iald (12 * p + i) (by decide +kernel) (rfl) (rfl) (by omega) (by first | decide | omega) ?_
        dsimp only
        rw [show I1 365 (12 * p + i) = nI (gg A p i) from by rw [hg p hp i (by omega), if_neg (by omega)]]
        refine Ev.run [(.bipush 65, 2), (.iload_n 2, 1), (.iadd, 1)] (pc' := 119) (L' := [some (.ref 359), some (.int (nI w)), some (.int (nI u)), some (.int (nI b)), some (.int (nI ((oc A w u p + ctN (gg A p) (65 + u) i) + 0))), some (.int (nI p)), some (.int (nI (12 * p + i)))]) (S' := [.int (nI 65 + nI u), .int (nI (gg A p i)), .int (nI (12 * p + i)), .ref 365]) rfl (by decide +kernel) rfl ?_
        rw [nI_add 65 u]
        refine Ev.icmp_ne (off := 10) (tgt := 129) (by decide +kernel) (by decide) (fun h119 => ?_) (fun h119 => ?_)
        · have h119 : ¬ (gg A p i) = (65 + u) := zz_bE_f (by omega) (by omega) h119
          refine Ev.run [(.aload_n 0, 1), (.getfield 25, 3), (.iload 6, 2)] (pc' := 135) (L' := [some (.ref 359), some (.int (nI w)), some (.int (nI u)), some (.int (nI b)), some (.int (nI ((oc A w u p + ctN (gg A p) (65 + u) i) + 0))), some (.int (nI p)), some (.int (nI (12 * p + i)))]) (S' := [.int (nI (12 * p + i)), .ref 365, .int (nI (12 * p + i)), .ref 365]) rfl (by decide +kernel) rfl ?_
          refine Ev.iald (12 * p + i) (by decide +kernel) (rfl) (rfl) (by omega) (by first | decide | omega) ?_
          dsimp only
          rw [show I1 365 (12 * p + i) = nI (gg A p i) from by rw [hg p hp i (by omega), if_neg (by omega)]]
          refine Ev.iast (12 * p + i) (by decide +kernel) (rfl) (rfl) (by omega) (by first | decide | omega) ?_
          dsimp only
          refine Ev.run [(.iinc 6 1, 3)] (pc' := 140) (L' := [some (.ref 359), some (.int (nI w)), some (.int (nI u)), some (.int (nI b)), some (.int (nI ((oc A w u p + ctN (gg A p) (65 + u) i) + 0))), some (.int (nI p)), some (.int (nI (12 * p + i) + 1))]) (S' := []) rfl (by decide +kernel) rfl ?_
          rw [nI_1 (12 * p + i)]
          refine Ev.goto (off := (-80)) (tgt := 60) (by decide +kernel) (by decide) ?_
          rw [show 12 * p + i + 1 = 12 * p + (i + 1) by omega]
          have hg9 : ∀ t, t < aN A → ∀ j, j < gz A t → (zz_up I1 365 (12 * p + i) (nI (gg A p i))) 365 (12 * t + j) = nI (if t < p ∨ (t = p ∧ j < i + 1) then otg A w u b t j else gg A t j) := by
            intro t ht j hj
            have hz2 := (hW.2.1 t ht).1
            by_cases q : t = p ∧ j = i
            · obtain ⟨q1, q2⟩ := q
              rw [q1, q2, zz_up_eq, zz_ups, if_pos (by omega), otg, if_neg (by omega)]
            · rw [zz_up_eq, zz_upn (by omega), hg t ht j hj]
              congr 1
              by_cases q3 : t < p ∨ (t = p ∧ j < i)
              · rw [if_pos q3, if_pos (by omega)]
              · rw [if_neg q3, if_neg (by omega)]
          have h9 := ih (i + 1) (zz_up I1 365 (12 * p + i) (nI (gg A p i))) (by omega) (by omega) (fun c h1 => by rw [zz_up_ne h1]; exact hc c h1) hg9
          rw [ctN, if_neg h91] at h9
          exact h9
        · have h119 : (gg A p i) = (65 + u) := zz_bE_t (by omega) (by omega) h119
          exfalso; omega
      · have h91 : (gg A p i) = (65 + u) := zz_bE_t (by omega) (by omega) h91
        refine Ev.run [(.iconst 1, 1)] (pc' := 95) (L' := [some (.ref 359), some (.int (nI w)), some (.int (nI u)), some (.int (nI b)), some (.int (nI (oc A w u p + ctN (gg A p) (65 + u) i))), some (.int (nI p)), some (.int (nI (12 * p + i)))]) (S' := [.int (nI 1), .int (nI (oc A w u p + ctN (gg A p) (65 + u) i))]) rfl (by decide +kernel) rfl ?_
        refine Ev.goto (off := 4) (tgt := 99) (by decide +kernel) (by decide) ?_
        refine Ev.run [(.iadd, 1)] (pc' := 100) (L' := [some (.ref 359), some (.int (nI w)), some (.int (nI u)), some (.int (nI b)), some (.int (nI (oc A w u p + ctN (gg A p) (65 + u) i))), some (.int (nI p)), some (.int (nI (12 * p + i)))]) (S' := [.int (nI (oc A w u p + ctN (gg A p) (65 + u) i) + nI 1)]) rfl (by decide +kernel) rfl ?_
        rw [nI_add (oc A w u p + ctN (gg A p) (65 + u) i) 1]
        refine Ev.run [(.istore 4, 2), (.aload_n 0, 1), (.getfield 25, 3), (.iload 6, 2), (.aload_n 0, 1), (.getfield 25, 3), (.iload 6, 2)] (pc' := 114) (L' := [some (.ref 359), some (.int (nI w)), some (.int (nI u)), some (.int (nI b)), some (.int (nI ((oc A w u p + ctN (gg A p) (65 + u) i) + 1))), some (.int (nI p)), some (.int (nI (12 * p + i)))]) (S' := [.int (nI (12 * p + i)), .ref 365, .int (nI (12 * p + i)), .ref 365]) rfl (by decide +kernel) rfl ?_
        refine Ev.iald (12 * p + i) (by decide +kernel) (rfl) (rfl) (by omega) (by first | decide | omega) ?_
        dsimp only
        rw [show I1 365 (12 * p + i) = nI (gg A p i) from by rw [hg p hp i (by omega), if_neg (by omega)]]
        refine Ev.run [(.bipush 65, 2), (.iload_n 2, 1), (.iadd, 1)] (pc' := 119) (L' := [some (.ref 359), some (.int (nI w)), some (.int (nI u)), some (.int (nI b)), some (.int (nI ((oc A w u p + ctN (gg A p) (65 + u) i) + 1))), some (.int (nI p)), some (.int (nI (12 * p + i)))]) (S' := [.int (nI 65 + nI u), .int (nI (gg A p i)), .int (nI (12 * p + i)), .ref 365]) rfl (by decide +kernel) rfl ?_
        rw [nI_add 65 u]
        refine Ev.icmp_ne (off := 10) (tgt := 129) (by decide +kernel) (by decide) (fun h119 => ?_) (fun h119 => ?_)
        · have h119 : ¬ (gg A p i) = (65 + u) := zz_bE_f (by omega) (by omega) h119
          exfalso; omega
        · have h119 : (gg A p i) = (65 + u) := zz_bE_t (by omega) (by omega) h119
          refine Ev.run [(.bipush 65, 2), (.iload_n 3, 1), (.iadd, 1)] (pc' := 126) (L' := [some (.ref 359), some (.int (nI w)), some (.int (nI u)), some (.int (nI b)), some (.int (nI ((oc A w u p + ctN (gg A p) (65 + u) i) + 1))), some (.int (nI p)), some (.int (nI (12 * p + i)))]) (S' := [.int (nI 65 + nI b), .int (nI (12 * p + i)), .ref 365]) rfl (by decide +kernel) rfl ?_
          rw [nI_add 65 b]
          refine Ev.goto (off := 10) (tgt := 136) (by decide +kernel) (by decide) ?_
          refine Ev.iast (12 * p + i) (by decide +kernel) (rfl) (rfl) (by omega) (by first | decide | omega) ?_
          dsimp only
          refine Ev.run [(.iinc 6 1, 3)] (pc' := 140) (L' := [some (.ref 359), some (.int (nI w)), some (.int (nI u)), some (.int (nI b)), some (.int (nI ((oc A w u p + ctN (gg A p) (65 + u) i) + 1))), some (.int (nI p)), some (.int (nI (12 * p + i) + 1))]) (S' := []) rfl (by decide +kernel) rfl ?_
          rw [nI_1 (12 * p + i)]
          refine Ev.goto (off := (-80)) (tgt := 60) (by decide +kernel) (by decide) ?_
          rw [show 12 * p + i + 1 = 12 * p + (i + 1) by omega]
          have hg9 : ∀ t, t < aN A → ∀ j, j < gz A t → (zz_up I1 365 (12 * p + i) (nI (65 + b))) 365 (12 * t + j) = nI (if t < p ∨ (t = p ∧ j < i + 1) then otg A w u b t j else gg A t j) := by
            intro t ht j hj
            have hz2 := (hW.2.1 t ht).1
            by_cases q : t = p ∧ j = i
            · obtain ⟨q1, q2⟩ := q
              rw [q1, q2, zz_up_eq, zz_ups, if_pos (by omega), otg, if_pos (by omega)]
            · rw [zz_up_eq, zz_upn (by omega), hg t ht j hj]
              congr 1
              by_cases q3 : t < p ∨ (t = p ∧ j < i)
              · rw [if_pos q3, if_pos (by omega)]
              · rw [if_neg q3, if_neg (by omega)]
          have h9 := ih (i + 1) (zz_up I1 365 (12 * p + i) (nI (65 + b))) (by omega) (by omega) (fun c h1 => by rw [zz_up_ne h1]; exact hc c h1) hg9
          rw [ctN, if_pos h91] at h9
          exact h9

set_option maxRecDepth 100000 in
set_option maxHeartbeats 4000000 in
theorem l_X7_ok2 {sc : Nat × (Nat → Int32)} {d : Nat} (I : Nat → Nat → Int32) (J : Nat → Nat → Int64) (A : zA) (hV : MV (zVm I) A) (hW : WF A) (w u b : Nat) (hw : w < 16) (hu : u < 16) (hb : b < 16) (hub : ¬ u = b) : ∀ (μ : Nat) (p : Nat) (I1 : Nat → Nat → Int32), aN A - p < μ → (p ≤ aN A) → (∀ c, c ≠ 365 → I1 c = I c) → (∀ t, t < aN A → ∀ j, j < gz A t → I1 365 (12 * t + j) = nI (if t < p then otg A w u b t j else gg A t j)) →  Ev sc (d + 2) 0 0 mX7_otherwise 29 [some (.ref 359), some (.int (nI w)), some (.int (nI u)), some (.int (nI b)), some (.int (nI (oc A w u p))), some (.int (nI p)), none] [] (zz_SH, I1, J) (fun r σ => r = some (.int (nI (oc A w u (aN A)))) ∧ ∃ I' : Nat → Nat → Int32, (∀ c, c ≠ 365 → I' c = I c) ∧ MV (zVm I') (setG A (otg A w u b)) ∧ σ = (zz_SH, I', J)) := by
  intro μ
  induction μ with
  | zero => intro p I1 hμ; exact absurd hμ (Nat.not_lt_zero _)
  | succ μ ih =>
    intro p I1 hμ hp hc hg
    have w1 := hW.1.1
    have w2 := hW.1.2.1
    refine Ev.run [(.iload 5, 2), (.aload_n 0, 1), (.getfield 75, 3)] (pc' := 35) (L' := [some (.ref 359), some (.int (nI w)), some (.int (nI u)), some (.int (nI b)), some (.int (nI (oc A w u p))), some (.int (nI p)), none]) (S' := [.int (I1 359 2), .int (nI p)]) rfl (by decide +kernel) rfl ?_
    rw [show I1 359 2 = nI (aN A) from by rw [hc 359 (by decide)]; exact hV.1.1]
    refine Ev.icmp_ge (off := 114) (tgt := 149) (by decide +kernel) (by decide) (fun h35 => ?_) (fun h35 => ?_)
    · have h35 : p ≥ (aN A) := zz_bG_t (by omega) (by omega) h35
      have hpN : aN A = p := by omega
      refine Ev.run [(.iload 4, 2)] (pc' := 151) (L' := [some (.ref 359), some (.int (nI w)), some (.int (nI u)), some (.int (nI b)), some (.int (nI (oc A w u p))), some (.int (nI p)), none]) (S' := [.int (nI (oc A w u p))]) rfl (by decide +kernel) rfl ?_
      exact Ev.iret rfl (by decide +kernel) (⟨by rw [hpN], I1, hc, MV_setG hV hc (fun t ht j hj => by rw [hg t ht j hj, if_pos (by omega)]), rfl⟩)
    · have h35 : p < (aN A) := zz_bG_f (by omega) (by omega) h35
      refine Ev.run [(.aload_n 0, 1), (.iload 5, 2), (.iload_n 1, 1)] (pc' := 42) (L' := [some (.ref 359), some (.int (nI w)), some (.int (nI u)), some (.int (nI b)), some (.int (nI (oc A w u p))), some (.int (nI p)), none]) (S' := [.int (nI w), .int (nI p), .ref 359]) rfl (by decide +kernel) rfl ?_
      refine Ev.callV0 mX7_inFirst [.int (nI p), .int (nI w)] [] _ rfl lk_RX7_165 (by decide +kernel) (rfl) rfl rfl rfl (Nat.le_of_ble_eq_true rfl) (c_X7_inFirst I1 J (setG A (fun t j => if t < p then otg A w u b t j else gg A t j)) (MV_setG hV hc hg) (WF_setG hW (fun t ht j hj => by show 33 ≤ (if t < p then otg A w u b t j else gg A t j) ∧ (if t < p then otg A w u b t j else gg A t j) ≤ 126; split; exact otg_r hW hb t ht j hj; exact (hW.2.1 t ht).2.2.1 j hj)) p w (by show p < aN A; omega) hw) ?_
      rintro _ _ ⟨rfl, rfl⟩
      have c1 := cF_le hW (show p < aN A by omega) w
      show Ev _ _ _ _ _ 45 [some (.ref 359), some (.int (nI w)), some (.int (nI u)), some (.int (nI b)), some (.int (nI (oc A w u p))), some (.int (nI p)), none] [.int (nI (cF A p w))] (zz_SH, I1, J) _
      refine Ev.if_le (off := 98) (tgt := 143) (by decide +kernel) (by decide) (fun h45 => ?_) (fun h45 => ?_)
      · have h45 : (cF A p w) ≤ 0 := zz_bG'_t (by omega) (by omega) h45
        refine Ev.run [(.iinc 5 1, 3)] (pc' := 146) (L' := [some (.ref 359), some (.int (nI w)), some (.int (nI u)), some (.int (nI b)), some (.int (nI (oc A w u p))), some (.int (nI p + 1)), none]) (S' := []) rfl (by decide +kernel) rfl ?_
        rw [nI_1 p]
        refine Ev.goto (off := (-117)) (tgt := 29) (by decide +kernel) (by decide) ?_
        have h9 := ih (p + 1) I1 (by omega) (by omega) hc (fun t ht j hj => by rw [hg t ht j hj]; congr 1; by_cases q : t < p; rw [if_pos q, if_pos (by omega)]; by_cases q2 : t = p; rw [if_neg q, if_pos (by omega), q2, otg_0 h45]; rw [if_neg q, if_neg (by omega)])
        rw [oc, if_neg (by omega)] at h9
        exact h9
      · have h45 : (cF A p w) > 0 := zz_bG'_f (by omega) (by omega) h45
        refine Ev.run [(.iload_n 2, 1), (.iload_n 3, 1)] (pc' := 50) (L' := [some (.ref 359), some (.int (nI w)), some (.int (nI u)), some (.int (nI b)), some (.int (nI (oc A w u p))), some (.int (nI p)), none]) (S' := [.int (nI b), .int (nI u)]) rfl (by decide +kernel) rfl ?_
        refine Ev.icmp_eq (off := 93) (tgt := 143) (by decide +kernel) (by decide) (fun h50 => ?_) (fun h50 => ?_)
        · have h50 : u = b := zz_bE_t (by omega) (by omega) h50
          exfalso; omega
        · have h50 : ¬ u = b := zz_bE_f (by omega) (by omega) h50
          refine Ev.run [(.bipush 12, 2), (.iload 5, 2), (.imul, 1)] (pc' := 58) (L' := [some (.ref 359), some (.int (nI w)), some (.int (nI u)), some (.int (nI b)), some (.int (nI (oc A w u p))), some (.int (nI p)), none]) (S' := [.int (nI 12 * nI p)]) rfl (by decide +kernel) rfl ?_
          rw [pk_mul 12 p]
          refine Ev.run [(.istore 6, 2)] (pc' := 60) (L' := [some (.ref 359), some (.int (nI w)), some (.int (nI u)), some (.int (nI b)), some (.int (nI (oc A w u p))), some (.int (nI p)), some (.int (nI (12 * p)))]) (S' := []) rfl (by decide +kernel) rfl ?_
          refine l_X7_ok1 I J A hV hW w u b hw hu hb hub p (by omega) (by omega) ?_ (gz A p + 1) 0 I1 (by omega) (by omega) hc (fun t ht j hj => by rw [hg t ht j hj]; congr 1; by_cases q : t < p; rw [if_pos q, if_pos (by omega)]; rw [if_neg q, if_neg (by omega)])
          intro I2 hc2 hg2
          show Ev _ _ _ _ _ 143 [some (.ref 359), some (.int (nI w)), some (.int (nI u)), some (.int (nI b)), some (.int (nI (oc A w u p + cG A p u))), some (.int (nI p)), none] [] (zz_SH, I2, J) _
          refine Ev.run [(.iinc 5 1, 3)] (pc' := 146) (L' := [some (.ref 359), some (.int (nI w)), some (.int (nI u)), some (.int (nI b)), some (.int (nI (oc A w u p + cG A p u))), some (.int (nI p + 1)), none]) (S' := []) rfl (by decide +kernel) rfl ?_
          rw [nI_1 p]
          refine Ev.goto (off := (-117)) (tgt := 29) (by decide +kernel) (by decide) ?_
          have h9 := ih (p + 1) I2 (by omega) (by omega) hc2 hg2
          rw [oc, if_pos (by omega)] at h9
          exact h9

set_option maxRecDepth 100000 in
set_option maxHeartbeats 4000000 in
theorem c_X7_otherwise_k {sc : Nat × (Nat → Int32)} {d : Nat} (I : Nat → Nat → Int32) (J : Nat → Nat → Int64) (A : zA) (hV : MV (zVm I) A) (hW : WF A) (w u b : Nat) (hw : w < 16) (hu : u < 16) (hb : b < 16) (hub : ¬ u = b) : EvM sc (d + 2) 0 0 mX7_otherwise [.ref 359, .int (nI w), .int (nI u), .int (nI b)] (zz_SH, I, J) (fun r σ => r = some (.int (nI (oc A w u (aN A)))) ∧ ∃ I' : Nat → Nat → Int32, (∀ c, c ≠ 365 → I' c = I c) ∧ MV (zVm I') (setG A (otg A w u b)) ∧ σ = (zz_SH, I', J)) := by
  have w1 := hW.1.1
  have w2 := hW.1.2.1
  refine EvM.of (by decide) rfl (Nat.le_of_ble_eq_true rfl) ?_
  show Ev _ _ _ _ _ 0 [some (.ref 359), some (.int (nI w)), some (.int (nI u)), some (.int (nI b)), none, none, none] [] (zz_SH, I, J) _
  refine Ev.run [(.iload_n 1, 1)] (pc' := 1) (L' := [some (.ref 359), some (.int (nI w)), some (.int (nI u)), some (.int (nI b)), none, none, none]) (S' := [.int (nI w)]) rfl (by decide +kernel) rfl ?_
  refine Ev.callS0 mX7_isWord [.int (nI w)] [] _ rfl lk_RX7_162 (by decide +kernel) rfl (Nat.le_of_ble_eq_true rfl) (c_X7_isWord I J (nI w)) ?_
  rintro _ _ ⟨rfl, ⟨rfl, h1⟩ | ⟨rfl, h1⟩⟩
  · show Ev _ _ _ _ _ 4 [some (.ref 359), some (.int (nI w)), some (.int (nI u)), some (.int (nI b)), none, none, none] [.int (nI 1)] (zz_SH, I, J) _
    refine Ev.if_eq (off := 17) (tgt := 21) (by decide +kernel) (by decide) (fun h4 => absurd h4 (by decide)) (fun h4 => ?_)
    refine Ev.run [(.iload_n 2, 1)] (pc' := 8) (L' := [some (.ref 359), some (.int (nI w)), some (.int (nI u)), some (.int (nI b)), none, none, none]) (S' := [.int (nI u)]) rfl (by decide +kernel) rfl ?_
    refine Ev.callS0 mX7_isWord [.int (nI u)] [] _ rfl lk_RX7_162 (by decide +kernel) rfl (Nat.le_of_ble_eq_true rfl) (c_X7_isWord I J (nI u)) ?_
    rintro _ _ ⟨rfl, ⟨rfl, h8⟩ | ⟨rfl, h8⟩⟩
    · show Ev _ _ _ _ _ 11 [some (.ref 359), some (.int (nI w)), some (.int (nI u)), some (.int (nI b)), none, none, none] [.int (nI 1)] (zz_SH, I, J) _
      refine Ev.if_eq (off := 10) (tgt := 21) (by decide +kernel) (by decide) (fun h11 => absurd h11 (by decide)) (fun h11 => ?_)
      refine Ev.run [(.iload_n 3, 1)] (pc' := 15) (L' := [some (.ref 359), some (.int (nI w)), some (.int (nI u)), some (.int (nI b)), none, none, none]) (S' := [.int (nI b)]) rfl (by decide +kernel) rfl ?_
      refine Ev.callS0 mX7_isWord [.int (nI b)] [] _ rfl lk_RX7_162 (by decide +kernel) rfl (Nat.le_of_ble_eq_true rfl) (c_X7_isWord I J (nI b)) ?_
      rintro _ _ ⟨rfl, ⟨rfl, h15⟩ | ⟨rfl, h15⟩⟩
      · show Ev _ _ _ _ _ 18 [some (.ref 359), some (.int (nI w)), some (.int (nI u)), some (.int (nI b)), none, none, none] [.int (nI 1)] (zz_SH, I, J) _
        refine Ev.if_ne (off := 5) (tgt := 23) (by decide +kernel) (by decide) (fun h18 => ?_) (fun h18 => absurd h18 (by decide))
        refine Ev.run [(.iconst 0, 1), (.istore 4, 2), (.iconst 0, 1), (.istore 5, 2)] (pc' := 29) (L' := [some (.ref 359), some (.int (nI w)), some (.int (nI u)), some (.int (nI b)), some (.int (nI 0)), some (.int (nI 0)), none]) (S' := []) rfl (by decide +kernel) rfl ?_
        exact l_X7_ok2 I J A hV hW w u b hw hu hb hub (aN A + 1) 0 I (by omega) (by omega) (fun _ _ => rfl) (fun t ht j hj => by rw [if_neg (by omega)]; exact (hV.2.1 t ht).2.2.2.2 j hj)
      · exact absurd ⟨b, hb, rfl⟩ h15
    · exact absurd ⟨u, hu, rfl⟩ h8
  · exact absurd ⟨w, hw, rfl⟩ h1
