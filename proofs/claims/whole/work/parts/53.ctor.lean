/-! ===== both objects are made ===== -/
def zz_dtA : List (List Int32) := [[], [0, 0], [], [0, 0, 0, 0, 0, 0, 0, 0, 0, 0, 0, 0], [], [], [(-6), (-6), (-6), (-6), (-6), (-6), (-6), (-6), (-6), (-6), (-6), (-6)], [], [], [], [], [], [], [], [], [], [], [], [], [], [], [], [], [], [], [], [], [], [], [], [1, 2, 5, 9, 10], [(-6), (-6), (-6), (-6), (-6), (-6), (-6), (-6), (-6), (-6), (-6), (-6), (-6), (-6), (-6), (-6)], [0, 0], [], [0, 0], [], [0, 0], [], [0, 0], [], [0, 0], [], [0, 0], [], [0, 0], [], [0, 0], [], [0, 0], [], [0, 0], [], [0, 0], [], [0, 0], [], [0, 0], [], [0, 0], [], [0, 0], [], [0, 0], [], [0, 0], [], [0, 0], [], [0, 0], [], [0, 0], [], [0, 0], [], [0, 0], [], [0, 0], [], [0, 0], [], [0, 0], [], [0, 0], [], [0, 0], [], [0, 0], [], [0, 0], [], [0, 0], [], [0, 0], [], [0, 0], [], [0, 0], [], [0, 0], [], [0, 0], [], [0, 0], [], [], [0, 0, 0, 0, 0, 0, 0, 0, 0, 0, 0, 0], [], [], [(-6), (-6), (-6), (-6), (-6), (-6), (-6), (-6), (-6), (-6), (-6), (-6)], [], [], [], [], [], [], [], [], [], [], [], [], [], [], [], [], [], [], [], [], [], [], [], [1, 2, 5, 9, 10], [(-6), (-6), (-6), (-6), (-6), (-6), (-6), (-6), (-6), (-6), (-6), (-6), (-6), (-6), (-6), (-6)], [0, 0], [], [0, 0], [], [0, 0], [], [0, 0], [], [0, 0], [], [0, 0], [], [0, 0], [], [0, 0], [], [0, 0], [], [0, 0], [], [0, 0], [], [0, 0], [], [0, 0], [], [0, 0], [], [0, 0], [], [0, 0], [], [0, 0], [], [0, 0], [], [0, 0], [], [0, 0], [], [0, 0], [], [0, 0], [], [0, 0], [], [0, 0], [], [0, 0], [], [0, 0], [], [0, 0], [], [0, 0], [], [0, 0], [], [0, 0], [], [0, 0], [], [0, 0], [], [0, 0], [], [0, 0], [], [0, 0], [], [0, 0], [], [0, 0, 0, 0, 0, 0, 0, 0, 0, 0, 0, 0], [], [], [(-6), (-6), (-6), (-6), (-6), (-6), (-6), (-6), (-6), (-6), (-6), (-6)], [], [], [], [], [], [], [], [], [], [], [], [], [], [], [], [], [], [], [], [], [], [], [], [1, 2, 5, 9, 10], [(-6), (-6), (-6), (-6), (-6), (-6), (-6), (-6), (-6), (-6), (-6), (-6), (-6), (-6), (-6), (-6)], [0, 0], [], [0, 0], [], [0, 0], [], [0, 0], [], [0, 0], [], [0, 0], [], [0, 0], [], [0, 0], [], [0, 0], [], [0, 0], [], [0, 0], [], [0, 0], [], [0, 0], [], [0, 0], [], [0, 0], [], [0, 0], [], [0, 0], [], [0, 0], [], [0, 0], [], [0, 0], [], [0, 0], [], [0, 0], [], [0, 0], [], [0, 0], [], [0, 0], [], [0, 0], [], [0, 0], [], [0, 0], [], [0, 0], [], [0, 0], [], [0, 0], [], [0, 0], [], [0, 0], [], [0, 0], [], [0, 0], [], [0, 0], [], [], [], [], [], [], [], [], [], [], [], [], [], [], [], [], [], [], [], [], [0, 0], [], [], [], [], [], [], [], [], [], [], [], [], [], [], [], [], [], [], [], [], [], [], [], [], [], [], [], [], [], [], [0, 0]]
def zz_mD : List (List Int32) := [[0, 0, 0, 0, 0, 0, 0, 0, 0, 0, 0, 0], [], [], [(-6), (-6), (-6), (-6), (-6), (-6), (-6), (-6), (-6), (-6), (-6), (-6)], [], [], [], [], [], [], [], [], [], [], [], [], [], [], [], [], [], [], [], [], [], [], [], [1, 2, 5, 9, 10], [(-6), (-6), (-6), (-6), (-6), (-6), (-6), (-6), (-6), (-6), (-6), (-6), (-6), (-6), (-6), (-6)], [0, 0], [], [0, 0], [], [0, 0], [], [0, 0], [], [0, 0], [], [0, 0], [], [0, 0], [], [0, 0], [], [0, 0], [], [0, 0], [], [0, 0], [], [0, 0], [], [0, 0], [], [0, 0], [], [0, 0], [], [0, 0], [], [0, 0], [], [0, 0], [], [0, 0], [], [0, 0], [], [0, 0], [], [0, 0], [], [0, 0], [], [0, 0], [], [0, 0], [], [0, 0], [], [0, 0], [], [0, 0], [], [0, 0], [], [0, 0], [], [0, 0], [], [0, 0], [], [0, 0], [], [0, 0], [], [0, 0], [], [0, 0]]
def zz_oD : List (List Int32) := [[], [], [], [], [], [], [], [], [], [1, 2, 5, 9, 10], [(-6), (-6), (-6), (-6), (-6), (-6), (-6), (-6), (-6), (-6), (-6), (-6), (-6), (-6), (-6), (-6)]]
def zz_su (k : Nat) (x : zz_SK) : zz_SK := match x with
  | .inl o => .inl (o.1, o.2.map (Option.map (Option.map (fun q => q - k))))
  | .inr a => .inr (a.1, a.2.1, a.2.2.map (Option.map (fun q => q - k)))
def zz_mX : List zz_SK := ((zz_SH.drop 3).take 101).map (zz_su 3)
def zz_oX : List zz_SK := (zz_SH.drop 359).map (zz_su 359)
def zz_eqr (x : Option (List zz_SK × List (List Int32) × Nat × Nat)) (SH : List zz_SK) (dt : List (List Int32)) (c s : Nat) : Bool := match x with
  | some (SH', dt', c', s') => decide (SH' = SH) && (decide (dt' = dt) && (Nat.beq c' c && Nat.beq s' s))
  | none => false
theorem zz_eqr_ok {x : Option (List zz_SK × List (List Int32) × Nat × Nat)} {SH : List zz_SK} {dt : List (List Int32)} {c s : Nat} (h : zz_eqr x SH dt c s = true) : x = some (SH, dt, c, s) := by
  unfold zz_eqr at h
  split at h
  · simp only [Bool.and_eq_true, decide_eq_true_eq] at h
    obtain ⟨h1, h2, h3, h4⟩ := h
    rw [h1, h2, Nat.eq_of_beq_eq_true h3, Nat.eq_of_beq_eq_true h4]
  · cases h
def zz_K0 : zz_Kt := fun _ _ => none
theorem zz_K0_ok : ∀ (m d' : Nat) (Xr : List zz_SK) (dr : List (List Int32)) (cr sr : Nat), zz_K0 m d' = some (Xr, dr, cr, sr) → ∀ sc : Nat × (Nat → Int32), EvM sc d' cr sr (zz_cm m) [.ref 0] ([.inl (zz_cc m, zz_df (zz_cc m))], zz_D [], zJ0) (fun r σ => r = none ∧ σ = (Xr, zz_D dr, zJ0)) := fun _ _ _ _ _ _ h => by cases h
set_option maxRecDepth 100000 in
theorem zz_runM : zz_eqr (zz_exe zz_K0 800 2 9 0 [some (.ref 0), none] [] [.inl (2, zz_df 2)] [] 0 0) zz_mX zz_mD 100 811 = true := by decide +kernel
set_option maxRecDepth 100000 in
theorem zz_runO : zz_eqr (zz_exe zz_K0 800 7 10 0 [some (.ref 0), none] [] [.inl (6, zz_df 6)] [] 0 0) zz_oX zz_oD 21 3068 = true := by decide +kernel
theorem c_X2_init0 {sc : Nat × (Nat → Int32)} : EvM sc 9 100 811 mX2_init [.ref 0] ([.inl (2, zz_df 2)], zz_D [], zJ0) (fun r σ => r = none ∧ σ = (zz_mX, zz_D zz_mD, zJ0)) := by
  obtain ⟨mc, ms, e1, e2, h⟩ := zz_exe_ok zz_K0_ok _ _ _ _ _ _ _ _ _ _ _ _ _ _ (zz_eqr_ok zz_runM)
  rw [Nat.zero_add] at e1 e2
  subst e1
  subst e2
  exact EvM.of (by decide) rfl (Nat.le_of_ble_eq_true rfl) (h sc)
theorem c_X7_init0 {sc : Nat × (Nat → Int32)} : EvM sc 10 21 3068 mX7_init [.ref 0] ([.inl (6, zz_df 6)], zz_D [], zJ0) (fun r σ => r = none ∧ σ = (zz_oX, zz_D zz_oD, zJ0)) := by
  obtain ⟨mc, ms, e1, e2, h⟩ := zz_exe_ok zz_K0_ok _ _ _ _ _ _ _ _ _ _ _ _ _ _ (zz_eqr_ok zz_runO)
  rw [Nat.zero_add] at e1 e2
  subst e1
  subst e2
  exact EvM.of (by decide) rfl (Nat.le_of_ble_eq_true rfl) (h sc)
def zz_K1 : zz_Kt := fun m d => match m, d with
  | 2, 9 => some (zz_mX, zz_mD, 100, 811)
  | _, _ => none
theorem zz_K1_ok : ∀ (m d' : Nat) (Xr : List zz_SK) (dr : List (List Int32)) (cr sr : Nat), zz_K1 m d' = some (Xr, dr, cr, sr) → ∀ sc : Nat × (Nat → Int32), EvM sc d' cr sr (zz_cm m) [.ref 0] ([.inl (zz_cc m, zz_df (zz_cc m))], zz_D [], zJ0) (fun r σ => r = none ∧ σ = (Xr, zz_D dr, zJ0)) := by
  intro m d' Xr dr cr sr h sc
  unfold zz_K1 at h
  split at h
  · cases h
    exact c_X2_init0
  · cases h
set_option maxRecDepth 100000 in
theorem zz_runA : zz_eqr (zz_exe zz_K1 300 6 10 0 [some (.ref 0), none] [] [.inl (5, zz_df 5)] [] 0 0) (zz_SH.take 359) zz_dtA 358 5058 = true := by decide +kernel
theorem c_X6_init {sc : Nat × (Nat → Int32)} : EvM sc 10 358 5058 mX6_init [.ref 0] ([.inl (5, zz_df 5)], zz_D [], zJ0) (fun r σ => r = none ∧ σ = (zz_SH.take 359, zz_D zz_dtA, zJ0)) := by
  obtain ⟨mc, ms, e1, e2, h⟩ := zz_exe_ok zz_K1_ok _ _ _ _ _ _ _ _ _ _ _ _ _ _ (zz_eqr_ok zz_runA)
  rw [Nat.zero_add] at e1 e2
  subst e1
  subst e2
  exact EvM.of (by decide) rfl (Nat.le_of_ble_eq_true rfl) (h sc)
def zz_dtB : List (List Int32) := zz_jd 359 zz_dtA zz_oD
set_option maxRecDepth 100000 in
theorem zz_pcB : zz_pc 359 3 7 [] (zz_SH.take 359 ++ [.inl (6, zz_df 6)]) zz_oX zz_dtA = true := by decide +kernel
set_option maxRecDepth 100000 in
theorem zz_SHB : (zz_SH.take 359 ++ ([.inl (6, zz_df 6)] : List zz_SK)).take 359 ++ zz_oX.map (zz_sk 359) = zz_SH := by decide +kernel
theorem c_X7_init {sc : Nat × (Nat → Int32)} : EvM sc 10 21 3068 mX7_init [.ref 359] (zz_SH.take 359 ++ [.inl (6, zz_df 6)], zz_D zz_dtA, zJ0) (fun r σ => r = none ∧ σ = (zz_SH, zz_D zz_dtB, zJ0)) := by
  have h := zz_prim (dr := zz_oD) zz_pcB (c_X7_init0 (sc := sc))
  rw [zz_SHB] at h
  exact h
