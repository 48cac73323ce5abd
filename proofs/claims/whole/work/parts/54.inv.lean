/-! ===== both objects hold the same: what each call keeps ===== -/
theorem EvM.imp {sc : Nat × (Nat → Int32)} {d mc ms : Nat} {M : zz_MD} {as : List Value} {σ : zz_St} {Q Q' : Option Value → zz_St → Prop} (k : EvM sc d mc ms M as σ Q) (h : ∀ r σ', Q r σ' → Q' r σ') : EvM sc d mc ms M as σ Q' := by
  intro l D cA b ex p e ha hc hcl s m args below hf happ hpre hK
  obtain ⟨n, o, r1, r2, r3, ⟨⟨r, σ', z1, z2, z3⟩, z4⟩, z5⟩ := k l D cA b ex p e ha hc hcl s m args below hf happ hpre hK
  exact ⟨n, o, r1, r2, r3, ⟨⟨r, σ', z1, h r σ' z2, z3⟩, z4⟩, z5⟩
theorem zz_rgx {x : Int32} {a b : Nat} (ha : a < 2 ^ 31) (hb : b < 2 ^ 31) (h : nI a ≤ x ∧ x ≤ nI b) : ∃ k, x = nI k ∧ a ≤ k ∧ k ≤ b := by
  have h0 : ¬ x < 0 := by
    intro q
    have h1 := h.1
    rw [Int32.le_iff_toInt_le, nI_toInt ha] at h1
    rw [Int32.lt_iff_toInt_lt, Int32.toInt_zero] at q
    omega
  obtain ⟨j, hj, rfl⟩ := nI_of h0
  exact ⟨j, rfl, (zz_rng ha hb hj).mp h⟩
theorem fS_lt {np x : Nat} {pd : Nat → Nat} (h : fS np pd = some x) (hn : np ≤ 30) : x < 900 := by
  have h1 := (et_b np pd 97 12 0 (Nat.zero_le _)).2.1
  unfold fS at h
  split at h
  · cases h
    show et np pd 97 12 0 < 900
    omega
  · cases h
theorem fP_lt {np x : Nat} {pd : Nat → Nat} (h : fP np pd = some x) (hn : np ≤ 30) : x < 900 := by
  have h1 := (et_b np pd 97 12 0 (Nat.zero_le _)).2.1
  have h1 : E1 np pd ≤ 12 := by show et np pd 97 12 0 ≤ 12; omega
  unfold fP at h
  split at h
  · cases h; omega
  · next h9 =>
    split at h
    · cases h
      have h2 : E1 np pd < np := by
        apply Classical.byContradiction
        intro q
        exact h9 (Or.inr (fun z => q z.1))
      have h3 := (et_b np pd 65 12 (E1 np pd + 1) (by omega)).2.2
      show et np pd 65 12 (E1 np pd + 1) < 900
      omega
    · cases h
abbrev zX : Type := zA × (Nat × (Nat → Nat)) × Option zA × Option zA
def ib (o : Option zA) : Int32 := match o with
  | none => nI 0
  | some _ => nI 1
def IC (I : Nat → Nat → Int32) (X : zX) : Prop := CR 3 I X.1 ∧ zz_rf I 1 X.2.1.1 X.2.1.2 ∧ (I 307 0 = ib X.2.2.1 ∧ ∀ B, X.2.2.1 = some B → CR 105 I B) ∧ (I 307 1 = ib X.2.2.2 ∧ ∀ B, X.2.2.2 = some B → CR 206 I B)
def IOm (I : Nat → Nat → Int32) (X : zX) : Prop := MV (zVm I) X.1 ∧ (I 359 0 = nI X.2.1.1 ∧ ∀ j, j < X.2.1.1 → I 360 j = nI (X.2.1.2 j)) ∧ (I 380 0 = ib X.2.2.1 ∧ ∀ B, X.2.2.1 = some B → MV (zVi I 0) B) ∧ (I 380 1 = ib X.2.2.2 ∧ ∀ B, X.2.2.2 = some B → MV (zVi I 1) B)
def IW (X : zX) : Prop := WF X.1 ∧ (X.2.1.1 ≤ 30 ∧ ∀ j, j < X.2.1.1 → 33 ≤ X.2.1.2 j ∧ X.2.1.2 j ≤ 126) ∧ (∀ B, X.2.2.1 = some B → WF B) ∧ ∀ B, X.2.2.2 = some B → WF B
theorem IC.gen {I I' : Nat → Nat → Int32} {X : zX} {A : zA} {n : Nat} {p : Nat → Nat} (hX : IW X) (h : IC I X) (hc : ∀ c, 105 ≤ c → c < 308 → I' c = I c) (hp : zz_rf I' 1 n p) (hC : CR 3 I' A) : IC I' (A, (n, p), X.2.2) := by
  refine ⟨hC, hp, ⟨?_, fun B hB => ?_⟩, ⟨?_, fun B hB => ?_⟩⟩
  · rw [hc 307 (by decide) (by decide)]; exact h.2.2.1.1
  · exact (h.2.2.1.2 B hB).fr (hX.2.2.1 B hB) (fun c h1 h2 => hc c (by omega) (by omega))
  · rw [hc 307 (by decide) (by decide)]; exact h.2.2.2.1
  · exact (h.2.2.2.2 B hB).fr (hX.2.2.2 B hB) (fun c h1 h2 => hc c (by omega) (by omega))
theorem IC.fr {I I' : Nat → Nat → Int32} {X : zX} (hX : IW X) (h : IC I X) (hc : ∀ c, c < 308 → I' c = I c) : IC I' X := h.gen hX (fun c _ h2 => hc c h2) (h.2.1.fr (hc 1 (by decide)) (hc 2 (by decide))) (h.1.fr hX.1 (fun c _ h2 => hc c (by omega)))
theorem zVm_fr {I I' : Nat → Nat → Int32} (h1 : I' 359 2 = I 359 2) (h2 : I' 359 8 = I 359 8) (h3 : ∀ c, 361 ≤ c → c ≤ 371 → I' c = I c) : zVm I' = zVm I := by
  funext c
  match c with
  | 0 =>
    funext j
    match j with
    | 0 => exact h1
    | 1 => exact h2
    | 2 => exact congrFun (h3 370 (by decide) (by decide)) 0
    | _ + 3 => exact congrFun (h3 370 (by decide) (by decide)) 1
  | 1 => exact h3 361 (by decide) (by decide)
  | 2 => exact h3 362 (by decide) (by decide)
  | 3 => exact h3 363 (by decide) (by decide)
  | 4 => exact h3 364 (by decide) (by decide)
  | 5 => exact h3 365 (by decide) (by decide)
  | 6 => exact h3 366 (by decide) (by decide)
  | 7 => exact h3 367 (by decide) (by decide)
  | 8 => exact h3 368 (by decide) (by decide)
  | 9 => exact h3 369 (by decide) (by decide)
  | _ + 10 => exact h3 371 (by decide) (by decide)
theorem zVi_fr {I I' : Nat → Nat → Int32} (n : Nat) (h : I' 379 = I 379) : zVi I' n = zVi I n := by
  funext c j
  show I' 379 _ = I 379 _
  rw [h]
theorem IOm.gen {I I' : Nat → Nat → Int32} {X : zX} {A : zA} {n : Nat} {p : Nat → Nat} (h : IOm I X) (hV : MV (zVm I') A) (h9 : I' 379 = I 379) (h0 : I' 380 = I 380) (hp : I' 359 0 = nI n ∧ ∀ j, j < n → I' 360 j = nI (p j)) : IOm I' (A, (n, p), X.2.2) := by
  refine ⟨hV, hp, ⟨by rw [h0]; exact h.2.2.1.1, fun B hB => ?_⟩, ⟨by rw [h0]; exact h.2.2.2.1, fun B hB => ?_⟩⟩
  · rw [zVi_fr 0 h9]; exact h.2.2.1.2 B hB
  · rw [zVi_fr 1 h9]; exact h.2.2.2.2 B hB
theorem IOm.sc {I I' : Nat → Nat → Int32} {X : zX} (h : IOm I X) (hs : zSc I I') : IOm I' X := h.gen (hs.mv h.1) hs.2.2.2.1 hs.2.2.2.2.1 ⟨by rw [hs.2.2.2.2.2.1]; exact h.2.1.1, fun j hj => by rw [hs.2.1]; exact h.2.1.2 j hj⟩
theorem IOm.fr {I I' : Nat → Nat → Int32} {X : zX} (h : IOm I X) (hc : ∀ c, 359 ≤ c → I' c = I c) : IOm I' X := by
  refine h.gen ?_ (hc 379 (by decide)) (hc 380 (by decide)) ⟨by rw [hc 359 (by decide)]; exact h.2.1.1, fun j hj => by rw [hc 360 (by decide)]; exact h.2.1.2 j hj⟩
  rw [zVm_fr (by rw [hc 359 (by decide)]) (by rw [hc 359 (by decide)]) (fun c h1 _ => hc c (by omega))]
  exact h.1
def CL (sc : Nat × (Nat → Int32)) (M : zz_MD) (as : List Value) (X : zX) (r : Value) (X' : zX) : Prop := ∀ (I : Nat → Nat → Int32) (J : Nat → Nat → Int64), IC I X → EvM sc 10 0 0 M as (zz_SH, I, J) (fun q σ => q = some r ∧ ∃ (I' : Nat → Nat → Int32) (J' : Nat → Nat → Int64), IC I' X' ∧ (∀ c, 359 ≤ c → I' c = I c) ∧ σ = (zz_SH, I', J'))
def ML (sc : Nat × (Nat → Int32)) (M : zz_MD) (as : List Value) (X : zX) (r : Value) (X' : zX) : Prop := ∀ (I : Nat → Nat → Int32) (J : Nat → Nat → Int64), IOm I X → EvM sc 10 0 0 M as (zz_SH, I, J) (fun q σ => q = some r ∧ ∃ (I' : Nat → Nat → Int32) (J' : Nat → Nat → Int64), IOm I' X' ∧ (∀ c, c < 359 → I' c = I c) ∧ σ = (zz_SH, I', J'))
theorem CL.q {sc : Nat × (Nat → Int32)} {M : zz_MD} {as : List Value} {X : zX} {r : Value} (h : ∀ (I : Nat → Nat → Int32) (J : Nat → Nat → Int64), IC I X → EvM sc 10 0 0 M as (zz_SH, I, J) (zz_is r (zz_SH, I, J))) : CL sc M as X r X := fun I J hI => (h I J hI).imp (by rintro _ _ ⟨rfl, rfl⟩; exact ⟨rfl, I, J, hI, fun _ _ => rfl, rfl⟩)
theorem CL.s {sc : Nat × (Nat → Int32)} {M : zz_MD} {as : List Value} {X : zX} {r : Value} (hX : IW X) (h : ∀ (I : Nat → Nat → Int32) (J : Nat → Nat → Int64), IC I X → EvM sc 10 0 0 M as (zz_SH, I, J) (fun q σ => q = some r ∧ ∃ I' : Nat → Nat → Int32, zCq I I' ∧ σ = (zz_SH, I', J))) : CL sc M as X r X := fun I J hI => (h I J hI).imp (by rintro _ _ ⟨rfl, I', hq, rfl⟩; exact ⟨rfl, I', J, hI.fr hX (fun c hc => hq c (by omega)), fun c hc => hq c (by omega), rfl⟩)
theorem ML.q {sc : Nat × (Nat → Int32)} {M : zz_MD} {as : List Value} {X : zX} {r : Value} (h : ∀ (I : Nat → Nat → Int32) (J : Nat → Nat → Int64), IOm I X → EvM sc 10 0 0 M as (zz_SH, I, J) (zz_is r (zz_SH, I, J))) : ML sc M as X r X := fun I J hI => (h I J hI).imp (by rintro _ _ ⟨rfl, rfl⟩; exact ⟨rfl, I, J, hI, fun _ _ => rfl, rfl⟩)
theorem ML.s {sc : Nat × (Nat → Int32)} {M : zz_MD} {as : List Value} {X : zX} {r : Value} (h : ∀ (I : Nat → Nat → Int32) (J : Nat → Nat → Int64), IOm I X → EvM sc 10 0 0 M as (zz_SH, I, J) (fun q σ => q = some r ∧ ∃ I' : Nat → Nat → Int32, zSc I I' ∧ σ = (zz_SH, I', J))) : ML sc M as X r X := fun I J hI => (h I J hI).imp (by rintro _ _ ⟨rfl, I', hq, rfl⟩; exact ⟨rfl, I', J, hI.sc hq, hq.1, rfl⟩)
theorem ML.s1 {sc : Nat × (Nat → Int32)} {M : zz_MD} {as : List Value} {X : zX} {r : Value} (h : ∀ (I : Nat → Nat → Int32) (J : Nat → Nat → Int64), IOm I X → EvM sc 10 0 0 M as (zz_SH, I, J) (fun q σ => q = some r ∧ ∃ I' : Nat → Nat → Int32, zS1 I I' ∧ σ = (zz_SH, I', J))) : ML sc M as X r X := fun I J hI => (h I J hI).imp (by rintro _ _ ⟨rfl, I', hq, rfl⟩; exact ⟨rfl, I', J, hI.sc hq.sc, hq.sc.1, rfl⟩)
def STi (sc : Nat × (Nat → Int32)) (M6 M7 : zz_MD) (as : List Value) (X : zX) : Prop := ∃ (r : Int32) (X' : zX), IW X' ∧ CL sc M6 (.ref 0 :: as) X (.int r) X' ∧ ML sc M7 (.ref 359 :: as) X (.int r) X'
def STl (sc : Nat × (Nat → Int32)) (M6 M7 : zz_MD) (as : List Value) (X : zX) : Prop := ∃ (r : Int64) (X' : zX), IW X' ∧ CL sc M6 (.ref 0 :: as) X (.long r) X' ∧ ML sc M7 (.ref 359 :: as) X (.long r) X'
theorem MV.cong {V V' : Nat → Nat → Int32} {A : zA} (hW : WF A) (h : MV V A) (hv : ∀ c, c < 11 → ∀ j, j < lnn c → V' c j = V c j) : MV V' A := by
  obtain ⟨⟨v1, v2, v3, v4⟩, v5, v6, v7, v8, v9, v10⟩ := h
  obtain ⟨⟨w1, w2, w3, w4⟩, w5, w6, -⟩ := hW
  have l : ∀ c, c < 11 → lnn c = ([4, 12, 12, 12, 144, 144, 10, 120, 5, 16, 24] : List Nat).getD c 0 := fun c _ => rfl
  refine ⟨⟨?_, ?_, ?_, ?_⟩, fun p hp => ⟨?_, ?_, ?_, fun j hj => ?_, fun j hj => ?_⟩, fun s hs => ⟨?_, fun j hj => ?_⟩, fun r hr => ?_, fun w hw => ?_, fun j hj => ?_, fun j hj => ?_⟩
  · rw [hv 0 (by decide) 0 (by decide)]; exact v1
  · rw [hv 0 (by decide) 1 (by decide)]; exact v2
  · rw [hv 0 (by decide) 2 (by decide)]; exact v3
  · rw [hv 0 (by decide) 3 (by decide)]; exact v4
  · rw [hv 1 (by decide) p (show p < 12 by omega)]; exact (v5 p hp).1
  · rw [hv 2 (by decide) p (show p < 12 by omega)]; exact (v5 p hp).2.1
  · rw [hv 3 (by decide) p (show p < 12 by omega)]; exact (v5 p hp).2.2.1
  · have := (w5 p hp).1
    rw [hv 4 (by decide) _ (show 12 * p + j < 144 by omega)]; exact (v5 p hp).2.2.2.1 j hj
  · have := (w5 p hp).1
    rw [hv 5 (by decide) _ (show 12 * p + j < 144 by omega)]; exact (v5 p hp).2.2.2.2 j hj
  · rw [hv 6 (by decide) s (show s < 10 by omega)]; exact (v6 s hs).1
  · have := (w6 s hs).1
    rw [hv 7 (by decide) _ (show 12 * s + j < 120 by omega)]; exact (v6 s hs).2 j hj
  · rw [hv 8 (by decide) r (show r < 5 by omega)]; exact v7 r hr
  · rw [hv 9 (by decide) w (show w < 16 by omega)]; exact v8 w hw
  · rw [hv 10 (by decide) j (show j < 24 by omega)]; exact v9 j hj
  · rw [hv 10 (by decide) _ (show 12 + j < 24 by omega)]; exact v10 j hj
