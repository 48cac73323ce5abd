/-! ===== the abstract state of a memory ===== -/
abbrev zA : Type := (Nat × Nat × Nat × Nat) × ((Nat → Nat) × (Nat → Nat) × (Nat → Nat)) × ((Nat → Nat → Nat) × (Nat → Nat → Nat) × (Nat → Nat → Nat)) × (Nat → Option Nat) × (Nat → Nat) × (Nat → Option Nat) × (Nat → Nat) × (Nat → Nat)
abbrev aN (A : zA) : Nat := A.1.1
abbrev aM (A : zA) : Nat := A.1.2.1
abbrev aa (A : zA) : Nat := A.1.2.2.1
abbrev ab (A : zA) : Nat := A.1.2.2.2
abbrev fz (A : zA) : Nat → Nat := A.2.1.1
abbrev gz (A : zA) : Nat → Nat := A.2.1.2.1
abbrev tz (A : zA) : Nat → Nat := A.2.1.2.2
abbrev ff (A : zA) : Nat → Nat → Nat := A.2.2.1.1
abbrev gg (A : zA) : Nat → Nat → Nat := A.2.2.1.2.1
abbrev tt (A : zA) : Nat → Nat → Nat := A.2.2.1.2.2
abbrev aB (A : zA) : Nat → Option Nat := A.2.2.2.1
abbrev rt (A : zA) : Nat → Nat := A.2.2.2.2.1
abbrev mu (A : zA) : Nat → Option Nat := A.2.2.2.2.2.1
abbrev la (A : zA) : Nat → Nat := A.2.2.2.2.2.2.1
abbrev lb (A : zA) : Nat → Nat := A.2.2.2.2.2.2.2
def ob (x : Option Nat) : Int32 := match x with
  | none => -6
  | some q => nI q
def MV (V : Nat → Nat → Int32) (A : zA) : Prop :=
  (V 0 0 = nI (aN A) ∧ V 0 1 = nI (aM A) ∧ V 0 2 = nI (aa A) ∧ V 0 3 = nI (ab A)) ∧
  (∀ p, p < aN A → V 1 p = ob (aB A p) ∧ V 2 p = nI (fz A p) ∧ V 3 p = nI (gz A p) ∧ (∀ j, j < fz A p → V 4 (12 * p + j) = nI (ff A p j)) ∧ ∀ j, j < gz A p → V 5 (12 * p + j) = nI (gg A p j)) ∧
  (∀ s, s < aM A → V 6 s = nI (tz A s) ∧ ∀ j, j < tz A s → V 7 (12 * s + j) = nI (tt A s j)) ∧
  (∀ r, r < 5 → V 8 r = nI (rt A r)) ∧ (∀ w, w < 16 → V 9 w = ob (mu A w)) ∧
  (∀ j, j < aa A → V 10 j = nI (la A j)) ∧ ∀ j, j < ab A → V 10 (12 + j) = nI (lb A j)
def WF (A : zA) : Prop :=
  (aN A ≤ 12 ∧ aM A ≤ 10 ∧ aa A ≤ 12 ∧ ab A ≤ 12) ∧
  (∀ p, p < aN A → (1 ≤ fz A p ∧ fz A p ≤ 12 ∧ 1 ≤ gz A p ∧ gz A p ≤ 12) ∧ (∀ j, j < fz A p → 33 ≤ ff A p j ∧ ff A p j ≤ 126) ∧ (∀ j, j < gz A p → 33 ≤ gg A p j ∧ gg A p j ≤ 126) ∧ ∀ q, aB A p = some q → q < p) ∧
  (∀ s, s < aM A → (1 ≤ tz A s ∧ tz A s ≤ 12) ∧ ∀ j, j < tz A s → 33 ≤ tt A s j ∧ tt A s j ≤ 126) ∧
  (∀ r, r < 5 → rt A r ≤ 99) ∧ (∀ w, w < 16 → ∀ x, mu A w = some x → x < 16) ∧
  (∀ j, j < aa A → 1 ≤ la A j ∧ la A j ≤ 99) ∧ ∀ j, j < ab A → 1 ≤ lb A j ∧ lb A j ≤ 99
def zVm (I : Nat → Nat → Int32) : Nat → Nat → Int32 := fun c => match c with
  | 0 => fun j => match j with
    | 0 => I 359 2
    | 1 => I 359 8
    | 2 => I 370 0
    | _ => I 370 1
  | 1 => I 361
  | 2 => I 362
  | 3 => I 363
  | 4 => I 364
  | 5 => I 365
  | 6 => I 366
  | 7 => I 367
  | 8 => I 368
  | 9 => I 369
  | _ => I 371
/-! a cell replaced; a boolean answer; an index in range -/
def zz_cs (I : Nat → Nat → Int32) (c : Nat) (h : Nat → Int32) : Nat → Nat → Int32 := fun x => if x = c then h else I x
theorem zz_cs_eq (I : Nat → Nat → Int32) (c : Nat) (h : Nat → Int32) : zz_cs I c h c = h := if_pos rfl
theorem zz_cs_ne {I : Nat → Nat → Int32} {c x : Nat} {h : Nat → Int32} (hx : x ≠ c) : zz_cs I c h x = I x := if_neg hx
theorem zz_cs_up (I : Nat → Nat → Int32) (c j : Nat) (h : Nat → Int32) (v : Int32) : zz_up (zz_cs I c h) c j v = zz_cs I c (upd h j v) := by
  funext x
  by_cases hx : x = c
  · subst hx; rw [zz_up_eq, zz_cs_eq, zz_cs_eq]
  · rw [zz_up_ne hx, zz_cs_ne hx, zz_cs_ne hx]
theorem zz_up_cs (I : Nat → Nat → Int32) (c j : Nat) (v : Int32) : zz_up I c j v = zz_cs I c (upd (I c) j v) := by
  funext x
  by_cases hx : x = c
  · subst hx; rw [zz_up_eq, zz_cs_eq]
  · rw [zz_up_ne hx, zz_cs_ne hx]
theorem zz_cs_id (I : Nat → Nat → Int32) (c : Nat) : zz_cs I c (I c) = I := by
  funext x
  by_cases hx : x = c
  · subst hx; rw [zz_cs_eq]
  · rw [zz_cs_ne hx]
theorem zz_cs_cs (I : Nat → Nat → Int32) (c : Nat) (h g : Nat → Int32) : zz_cs (zz_cs I c h) c g = zz_cs I c g := by
  funext x
  by_cases hx : x = c
  · subst hx; rw [zz_cs_eq, zz_cs_eq]
  · rw [zz_cs_ne hx, zz_cs_ne hx, zz_cs_ne hx]
theorem zz_cs_sw (I : Nat → Nat → Int32) {c e : Nat} (h g : Nat → Int32) (hce : c ≠ e) : zz_cs (zz_cs I c h) e g = zz_cs (zz_cs I e g) c h := by
  funext x
  by_cases hx : x = c
  · subst hx; rw [zz_cs_ne hce, zz_cs_eq, zz_cs_eq]
  · by_cases hy : x = e
    · subst hy; rw [zz_cs_eq, zz_cs_ne hx, zz_cs_eq]
    · rw [zz_cs_ne hy, zz_cs_ne hx, zz_cs_ne hx, zz_cs_ne hy]
theorem zz_ups {f : Nat → Int32} {k : Nat} {x : Int32} : upd f k x k = x := by simp [upd]
theorem zz_upn {f : Nat → Int32} {k j : Nat} {x : Int32} (h : j ≠ k) : upd f k x j = f j := by simp [upd, h]
def zz_tf (P : Prop) (σ0 : zz_St) : Option Value → zz_St → Prop := fun r σ => σ = σ0 ∧ ((r = some (.int (nI 1)) ∧ P) ∨ (r = some (.int (nI 0)) ∧ ¬ P))
def zz_ix (p : Int32) (N : Nat) : Prop := ∃ j, j < N ∧ p = nI j
theorem zz_ix_iff {p : Int32} {N : Nat} (hN : N < 2 ^ 31) : (nI 0 ≤ p ∧ p ≤ nI N - nI 1) ↔ zz_ix p N := by
  have e0 : (nI 0).toInt = 0 := nI_toInt (by decide)
  have e1 : (nI N - nI 1).toInt = (N : Int) - 1 := by
    rw [Int32.toInt_sub, nI_toInt hN, nI_toInt (by decide)]
    rw [Int.bmod_def]
    omega
  constructor
  · rintro ⟨h1, h2⟩
    rw [Int32.le_iff_toInt_le, e0] at h1
    rw [Int32.le_iff_toInt_le, e1] at h2
    have hn : ¬ p < 0 := by
      rw [Int32.lt_iff_toInt_lt, Int32.toInt_zero]; omega
    obtain ⟨j, hj, rfl⟩ := nI_of hn
    rw [nI_toInt hj] at h2
    exact ⟨j, by omega, rfl⟩
  · rintro ⟨j, hj, rfl⟩
    rw [Int32.le_iff_toInt_le, e0, Int32.le_iff_toInt_le, e1, nI_toInt (by omega)]
    omega
/-! ===== likeness ===== -/
def isnum (x : Nat) : Prop := 48 ≤ x ∧ x ≤ 57
def chg (x y : Nat) : Nat := if x = y then 0 else if 48 ≤ x ∧ x ≤ 57 ∧ 48 ≤ y ∧ y ≤ 57 then 1 else 4
def DD (f g : Nat → Nat) : Nat → Nat → Nat
  | 0, j => 4 * j
  | i + 1, 0 => 4 * (i + 1)
  | i + 1, j + 1 => min (DD f g i j + chg (f i) (g j)) (min (DD f g i (j + 1) + 4) (DD f g (i + 1) j + 4))
theorem chg_le (x y : Nat) : chg x y ≤ 4 := by
  unfold chg; split
  · omega
  · split <;> omega
theorem DD_0 (f g : Nat → Nat) (j : Nat) : DD f g 0 j = 4 * j := by rw [DD]
theorem DD_z (f g : Nat → Nat) (i : Nat) : DD f g i 0 = 4 * i := by cases i <;> rw [DD]
theorem DD_le (f g : Nat → Nat) : ∀ i j, DD f g i j ≤ 4 * max i j
  | 0, j => by rw [DD_0]; omega
  | i + 1, 0 => by rw [DD_z]; omega
  | i + 1, j + 1 => by
    have h1 := DD_le f g i j
    have h2 := chg_le (f i) (g j)
    rw [DD]
    omega
theorem DD_zero (f g : Nat → Nat) : ∀ i j, DD f g i j = 0 ↔ (i = j ∧ ∀ k, k < i → f k = g k)
  | 0, j => by
    rw [DD_0]
    constructor
    · intro h; exact ⟨by omega, fun k hk => absurd hk (Nat.not_lt_zero k)⟩
    · rintro ⟨h, -⟩; omega
  | i + 1, 0 => by
    rw [DD_z]
    constructor
    · intro h; omega
    · rintro ⟨h, -⟩; omega
  | i + 1, j + 1 => by
    have h1 := DD_zero f g i j
    rw [DD]
    constructor
    · intro h
      have h2 : DD f g i j = 0 := by omega
      have h3 : chg (f i) (g j) = 0 := by omega
      obtain ⟨e, h4⟩ := h1.mp h2
      subst e
      refine ⟨rfl, fun k hk => ?_⟩
      by_cases hki : k = i
      · subst hki
        unfold chg at h3
        split at h3
        · assumption
        · split at h3 <;> omega
      · exact h4 k (by omega)
    · rintro ⟨e, h⟩
      have e : i = j := by omega
      subst e
      have h2 := h1.mpr ⟨rfl, fun k hk => h k (by omega)⟩
      have h3 : chg (f i) (g i) = 0 := by rw [chg, if_pos (h i (by omega))]
      omega
/-- LIKE -/
def lik (f : Nat → Nat) (n : Nat) (g : Nat → Nat) (m : Nat) : Nat := 100 - 25 * DD f g n m / max n m
theorem lik_le (f : Nat → Nat) (n : Nat) (g : Nat → Nat) (m : Nat) : lik f n g m ≤ 100 := Nat.sub_le _ _
theorem lik_q (f : Nat → Nat) {n : Nat} (g : Nat → Nat) {m : Nat} (hn : 1 ≤ n) : 25 * DD f g n m / max n m ≤ 100 := by
  have h := DD_le f g n m
  have h2 : 0 < max n m := by omega
  exact Nat.le_of_lt_succ ((Nat.div_lt_iff_lt_mul h2).mpr (by omega))
theorem lik_100 (f : Nat → Nat) {n : Nat} (g : Nat → Nat) {m : Nat} (hn : 1 ≤ n) (hn2 : n ≤ 12) (hm2 : m ≤ 12) : lik f n g m = 100 ↔ (n = m ∧ ∀ k, k < n → f k = g k) := by
  have h2 : 0 < max n m := by omega
  rw [← DD_zero, lik]
  constructor
  · intro h
    have h3 : 25 * DD f g n m / max n m = 0 := by
      have := lik_q f (n := n) g (m := m) hn
      omega
    have h4 := (Nat.div_eq_zero_iff).mp h3
    omega
  · intro h
    rw [h]
    simp
def lkT (A : zA) (s t : Nat) : Nat := lik (tt A s) (tz A s) (tt A t) (tz A t)
def lkP (A : zA) (s p : Nat) : Nat := lik (tt A s) (tz A s) (ff A p) (fz A p)
/-- MATCH -/
def mtc (A : zA) (s p : Nat) : Nat := if lkP A s p = 100 then match aB A p, s with
    | some q, s' + 1 => if lkP A s' q = 100 then 101 else 100
    | _, _ => 100
  else lkP A s p
theorem mtc_le (A : zA) (s p : Nat) : mtc A s p ≤ 101 := by
  unfold mtc
  have := lik_le (tt A s) (tz A s) (ff A p) (fz A p)
  split
  · split
    · split <;> omega
    · omega
  · exact Nat.le_trans this (by decide)
/-- FOUND: the last with the greatest match, of the first n pairs; its match -/
def fnd (A : zA) (s : Nat) : Nat → Option (Nat × Nat)
  | 0 => none
  | n + 1 => match fnd A s n with
    | none => some (n, mtc A s n)
    | some (p, v) => if v ≤ mtc A s n then some (n, mtc A s n) else some (p, v)
def bnd (m : Nat) : Nat := if 100 < m then 0 else if m = 100 then 1 else if 85 ≤ m then 2 else if 60 ≤ m then 3 else 4
