/-! ===== two texts laid side by side ===== -/
def o1 (s : Nat) : Nat := if s = 2 then 0 else if s = 3 ∨ s = 5 then 2 else 1
def o2 (s : Nat) : Nat := if s = 1 then 0 else if s = 4 ∨ s = 5 then 2 else 1
def bs (s : Nat) : Nat := if s = 0 then 0 else if s < 3 then 30 else if s < 5 then 10 else 15
theorem o1_le (s : Nat) : o1 s ≤ 2 := by unfold o1; split; omega; split <;> omega
theorem o2_le (s : Nat) : o2 s ≤ 2 := by unfold o2; split; omega; split <;> omega
theorem o_pos (s : Nat) : 1 ≤ o1 s + o2 s := by
  unfold o1 o2
  by_cases h1 : s = 2
  · subst h1; decide
  · rw [if_neg h1]
    by_cases h2 : s = 3 ∨ s = 5
    · rw [if_pos h2]; omega
    · rw [if_neg h2]; omega
theorem bs_le (s : Nat) : bs s ≤ 30 := by unfold bs; split; omega; split; omega; split <;> omega
def sm (f : Nat → Nat) (i : Nat) : Nat → Nat
  | 0 => 0
  | n + 1 => sm f i n + f (i + n)
theorem sm_le {f : Nat → Nat} {i a : Nat} (hf : ∀ j, j < a → f j ≤ 99) : ∀ n, i + n ≤ a → sm f i n ≤ 99 * n
  | 0, _ => Nat.le_refl _
  | n + 1, h => by have := sm_le (i := i) hf n (by omega); have := hf (i + n) (by omega); rw [sm]; omega
def absd (a b : Nat) : Nat := if b ≤ a then a - b else b - a
theorem absd_le (a b : Nat) : absd a b ≤ a + b := by unfold absd; split <;> omega
def stv (A : zA) (s i j : Nat) : Nat := absd (sm (la A) i (o1 s)) (sm (lb A) j (o2 s)) + bs s
def stc (A : zA) (s i j : Nat) : Option Nat := if i + o1 s ≤ aa A ∧ j + o2 s ≤ ab A then some (stv A s i j) else none
theorem stc_s {A : zA} {s i j : Nat} (h : i + o1 s ≤ aa A ∧ j + o2 s ≤ ab A) : stc A s i j = some (stv A s i j) := if_pos h
theorem stc_n {A : zA} {s i j : Nat} (h : ¬ (i + o1 s ≤ aa A ∧ j + o2 s ≤ ab A)) : stc A s i j = none := if_neg h
theorem stv_le {A : zA} (hW : WF A) {s i j : Nat} (h : i + o1 s ≤ aa A ∧ j + o2 s ≤ ab A) : stv A s i j ≤ 426 := by
  have h1 := sm_le (f := la A) (i := i) (fun j hj => (hW.2.2.2.2.2.1 j hj).2) (o1 s) h.1
  have h2 := sm_le (f := lb A) (i := j) (fun j hj => (hW.2.2.2.2.2.2 j hj).2) (o2 s) h.2
  have h3 := absd_le (sm (la A) i (o1 s)) (sm (lb A) j (o2 s))
  have h4 := bs_le s
  have h5 := o1_le s
  have h6 := o2_le s
  unfold stv
  omega
/-- cost and ways over the first n steps -/
def fd (A : zA) (T : Nat → Nat → Nat × Int64) (i j : Nat) : Nat → Nat × Int64
  | 0 => if i = aa A ∧ j = ab A then (0, 1) else (1000000, 0)
  | s + 1 => match stc A s i j with
    | none => fd A T i j s
    | some v => if v + (T (i + o1 s) (j + o2 s)).1 < (fd A T i j s).1 then (v + (T (i + o1 s) (j + o2 s)).1, (T (i + o1 s) (j + o2 s)).2)
      else if v + (T (i + o1 s) (j + o2 s)).1 = (fd A T i j s).1 then ((fd A T i j s).1, (fd A T i j s).2 + (T (i + o1 s) (j + o2 s)).2) else fd A T i j s
theorem fd_n {A : zA} {T : Nat → Nat → Nat × Int64} {i j s : Nat} (h : ¬ (i + o1 s ≤ aa A ∧ j + o2 s ≤ ab A)) : fd A T i j (s + 1) = fd A T i j s := by
  rw [fd, stc_n h]
theorem fd_lt {A : zA} {T : Nat → Nat → Nat × Int64} {i j s : Nat} (h : i + o1 s ≤ aa A ∧ j + o2 s ≤ ab A) (h2 : stv A s i j + (T (i + o1 s) (j + o2 s)).1 < (fd A T i j s).1) : fd A T i j (s + 1) = (stv A s i j + (T (i + o1 s) (j + o2 s)).1, (T (i + o1 s) (j + o2 s)).2) := by
  rw [fd, stc_s h]
  exact if_pos h2
theorem fd_eq {A : zA} {T : Nat → Nat → Nat × Int64} {i j s : Nat} (h : i + o1 s ≤ aa A ∧ j + o2 s ≤ ab A) (h2 : stv A s i j + (T (i + o1 s) (j + o2 s)).1 = (fd A T i j s).1) : fd A T i j (s + 1) = ((fd A T i j s).1, (fd A T i j s).2 + (T (i + o1 s) (j + o2 s)).2) := by
  rw [fd, stc_s h]
  show (if _ then _ else _) = _
  rw [if_neg (by omega), if_pos h2]
theorem fd_gt {A : zA} {T : Nat → Nat → Nat × Int64} {i j s : Nat} (h : i + o1 s ≤ aa A ∧ j + o2 s ≤ ab A) (h2 : (fd A T i j s).1 < stv A s i j + (T (i + o1 s) (j + o2 s)).1) : fd A T i j (s + 1) = fd A T i j s := by
  rw [fd, stc_s h]
  show (if _ then _ else _) = _
  rw [if_neg (by omega), if_neg (by omega)]
theorem fd_cong {A : zA} {T T' : Nat → Nat → Nat × Int64} {i j : Nat} : ∀ n, (∀ s, s < n → i + o1 s ≤ aa A ∧ j + o2 s ≤ ab A → T (i + o1 s) (j + o2 s) = T' (i + o1 s) (j + o2 s)) → fd A T i j n = fd A T' i j n
  | 0, _ => rfl
  | n + 1, h => by
    have ih := fd_cong (A := A) (T := T) (T' := T') (i := i) (j := j) n (fun s hs => h s (by omega))
    by_cases hc : i + o1 n ≤ aa A ∧ j + o2 n ≤ ab A
    · have e := h n (by omega) hc
      rw [fd, fd, stc_s hc, ih, e]
    · rw [fd_n hc, fd_n hc, ih]
theorem fd_mono {A : zA} {T : Nat → Nat → Nat × Int64} {i j n : Nat} : (fd A T i j (n + 1)).1 ≤ (fd A T i j n).1 ∧ (i + o1 n ≤ aa A ∧ j + o2 n ≤ ab A → (fd A T i j (n + 1)).1 ≤ stv A n i j + (T (i + o1 n) (j + o2 n)).1) := by
  by_cases hc : i + o1 n ≤ aa A ∧ j + o2 n ≤ ab A
  · rcases Nat.lt_trichotomy (stv A n i j + (T (i + o1 n) (j + o2 n)).1) (fd A T i j n).1 with q | q | q
    · rw [fd_lt hc q]; exact ⟨Nat.le_of_lt q, fun _ => Nat.le_refl _⟩
    · rw [fd_eq hc q]; exact ⟨Nat.le_refl _, fun _ => Nat.le_of_eq q.symm⟩
    · rw [fd_gt hc q]; exact ⟨Nat.le_refl _, fun _ => Nat.le_of_lt q⟩
  · rw [fd_n hc]; exact ⟨Nat.le_refl _, fun h => absurd h hc⟩
theorem fd_le {A : zA} {T : Nat → Nat → Nat × Int64} {i j : Nat} : ∀ n s, s < n → i + o1 s ≤ aa A ∧ j + o2 s ≤ ab A → (fd A T i j n).1 ≤ stv A s i j + (T (i + o1 s) (j + o2 s)).1
  | 0, s, h, _ => absurd h (Nat.not_lt_zero s)
  | n + 1, s, h, hc => by
    have m := fd_mono (A := A) (T := T) (i := i) (j := j) (n := n)
    by_cases e : s = n
    · subst e; exact m.2 hc
    · exact Nat.le_trans m.1 (fd_le n s (by omega) hc)
theorem fd_le0 {A : zA} {T : Nat → Nat → Nat × Int64} {i j : Nat} : ∀ n, (fd A T i j n).1 ≤ 1000000
  | 0 => by rw [fd]; split <;> decide
  | n + 1 => Nat.le_trans (fd_mono (A := A) (T := T) (i := i) (j := j) (n := n)).1 (fd_le0 n)
/-- the least is one of the steps', or what it began with -/
theorem fd_some {A : zA} {T : Nat → Nat → Nat × Int64} {i j : Nat} : ∀ n, (fd A T i j n).1 = (fd A T i j 0).1 ∨ ∃ s, s < n ∧ (i + o1 s ≤ aa A ∧ j + o2 s ≤ ab A) ∧ stv A s i j + (T (i + o1 s) (j + o2 s)).1 = (fd A T i j n).1
  | 0 => Or.inl rfl
  | n + 1 => by
    by_cases hc : i + o1 n ≤ aa A ∧ j + o2 n ≤ ab A
    · rcases Nat.lt_trichotomy (stv A n i j + (T (i + o1 n) (j + o2 n)).1) (fd A T i j n).1 with q | q | q
      · exact Or.inr ⟨n, Nat.lt_succ_self n, hc, by rw [fd_lt hc q]⟩
      · exact Or.inr ⟨n, Nat.lt_succ_self n, hc, by rw [fd_eq hc q]; exact q⟩
      · rw [fd_gt hc q]
        rcases fd_some (A := A) (T := T) (i := i) (j := j) n with h | ⟨s, h1, h2, h3⟩
        · exact Or.inl h
        · exact Or.inr ⟨s, by omega, h2, h3⟩
    · rw [fd_n hc]
      rcases fd_some (A := A) (T := T) (i := i) (j := j) n with h | ⟨s, h1, h2, h3⟩
      · exact Or.inl h
      · exact Or.inr ⟨s, by omega, h2, h3⟩
def lay (A : zA) : Nat → Nat → Nat → Nat × Int64
  | 0, _, _ => (0, 1)
  | f + 1, i, j => fd A (lay A f) i j 6
def LT (A : zA) (i j : Nat) : Nat × Int64 := lay A 25 i j
theorem lay_irr (A : zA) : ∀ n i j, (aa A - i) + (ab A - j) ≤ n → ∀ f f', n < f → n < f' → lay A f i j = lay A f' i j := by
  intro n
  induction n with
  | zero =>
    intro i j h f f' hf hf'
    obtain ⟨g, rfl⟩ : ∃ g, f = g + 1 := ⟨f - 1, by omega⟩
    obtain ⟨g', rfl⟩ : ∃ g, f' = g + 1 := ⟨f' - 1, by omega⟩
    rw [lay, lay]
    apply fd_cong
    intro s _ hc
    have := o_pos s
    omega
  | succ n ih =>
    intro i j h f f' hf hf'
    obtain ⟨g, rfl⟩ : ∃ g, f = g + 1 := ⟨f - 1, by omega⟩
    obtain ⟨g', rfl⟩ : ∃ g, f' = g + 1 := ⟨f' - 1, by omega⟩
    rw [lay, lay]
    apply fd_cong
    intro s _ hc
    have := o_pos s
    exact ih _ _ (by omega) g g' (by omega) (by omega)
theorem LT_rec {A : zA} (hW : WF A) (i j : Nat) : LT A i j = fd A (LT A) i j 6 := by
  have h1 := hW.1.2.2
  show lay A 25 i j = _
  rw [lay]
  apply fd_cong
  intro s _ hc
  have := o_pos s
  exact lay_irr A 23 _ _ (by omega) 24 25 (by omega) (by omega)
theorem LT_end {A : zA} (hW : WF A) : LT A (aa A) (ab A) = (0, 1) := by
  rw [LT_rec hW]
  have h : ∀ n, fd A (LT A) (aa A) (ab A) n = (0, 1) := by
    intro n
    induction n with
    | zero => rw [fd, if_pos ⟨rfl, rfl⟩]
    | succ n ih =>
      have := o_pos n
      rw [fd_n (by omega), ih]
  exact h 6
theorem LT_le {A : zA} (hW : WF A) : ∀ n i j, i ≤ aa A → j ≤ ab A → (aa A - i) + (ab A - j) ≤ n → (LT A i j).1 ≤ 426 * n := by
  intro n
  induction n with
  | zero =>
    intro i j hi hj h
    rw [show i = aa A by omega, show j = ab A by omega, LT_end hW]
    exact Nat.le_refl _
  | succ n ih =>
    intro i j hi hj h
    by_cases h1 : i < aa A
    · rw [LT_rec hW]
      have hc : i + o1 1 ≤ aa A ∧ j + o2 1 ≤ ab A := by
        show i + 1 ≤ aa A ∧ j + 0 ≤ ab A; omega
      have a1 := fd_le (A := A) (T := LT A) (i := i) (j := j) 6 1 (by decide) hc
      have a2 := stv_le hW hc
      have a3 := ih (i + 1) (j + 0) (by omega) (by omega) (by omega)
      have a4 : (LT A (i + o1 1) (j + o2 1)).1 ≤ 426 * n := a3
      omega
    · by_cases h2 : j < ab A
      · rw [LT_rec hW]
        have hc : i + o1 2 ≤ aa A ∧ j + o2 2 ≤ ab A := by
          show i + 0 ≤ aa A ∧ j + 1 ≤ ab A; omega
        have a1 := fd_le (A := A) (T := LT A) (i := i) (j := j) 6 2 (by decide) hc
        have a2 := stv_le hW hc
        have a3 := ih (i + 0) (j + 1) (by omega) (by omega) (by omega)
        have a4 : (LT A (i + o1 2) (j + o2 2)).1 ≤ 426 * n := a3
        omega
      · rw [show i = aa A by omega, show j = ab A by omega, LT_end hW]
        exact Nat.zero_le _
theorem LT_b {A : zA} (hW : WF A) {i j : Nat} (hi : i ≤ aa A) (hj : j ≤ ab A) : (LT A i j).1 ≤ 10224 := by
  have h1 := hW.1.2.2
  exact Nat.le_trans (LT_le hW 24 i j hi hj (by omega)) (by decide)
/-- the first step of the least cost -/
def isF (A : zA) (i j s : Nat) : Prop := (i + o1 s ≤ aa A ∧ j + o2 s ≤ ab A) ∧ stv A s i j + (LT A (i + o1 s) (j + o2 s)).1 = (LT A i j).1
theorem isF_ex {A : zA} (hW : WF A) {i j : Nat} (hi : i ≤ aa A) (hj : j ≤ ab A) (h : i < aa A ∨ j < ab A) : ∃ s, s < 6 ∧ isF A i j s ∧ ∀ t, t < s → ¬ isF A i j t := by
  have key : ∃ s, s < 6 ∧ isF A i j s := by
    rcases fd_some (A := A) (T := LT A) (i := i) (j := j) 6 with q | ⟨s, h1, h2, h3⟩
    · exfalso
      rw [← LT_rec hW, fd, if_neg (by omega)] at q
      have := LT_b hW hi hj
      have q' : (LT A i j).1 = 1000000 := q
      omega
    · exact ⟨s, h1, h2, by rw [LT_rec hW i j]; exact h3⟩
  obtain ⟨s, h1, h2⟩ := key
  obtain ⟨k, hk, hk2⟩ := pk_least (fun s => s < 6 ∧ isF A i j s) ⟨s, h1, h2⟩
  exact ⟨k, hk.1, hk.2, fun t ht q => hk2 t ht ⟨by omega, q⟩⟩
noncomputable def fst6 (A : zA) (i j : Nat) : Nat := Classical.epsilon (fun s => s < 6 ∧ isF A i j s ∧ ∀ t, t < s → ¬ isF A i j t)
theorem fst6_spec {A : zA} (hW : WF A) {i j : Nat} (hi : i ≤ aa A) (hj : j ≤ ab A) (h : i < aa A ∨ j < ab A) : fst6 A i j < 6 ∧ isF A i j (fst6 A i j) ∧ ∀ t, t < fst6 A i j → ¬ isF A i j t := Classical.epsilon_spec (isF_ex hW hi hj h)
theorem fst6_eq {A : zA} (hW : WF A) {i j s : Nat} (hi : i ≤ aa A) (hj : j ≤ ab A) (h : i < aa A ∨ j < ab A) (h1 : isF A i j s) (h2 : ∀ t, t < s → ¬ isF A i j t) : fst6 A i j = s := by
  obtain ⟨-, b, c⟩ := fst6_spec hW hi hj h
  rcases Nat.lt_trichotomy (fst6 A i j) s with q | q | q
  · exact absurd b (h2 _ q)
  · exact q
  · exact absurd h1 (c s q)
noncomputable def sq (A : zA) : Nat → Nat → Nat → List Nat
  | 0, _, _ => []
  | f + 1, i, j => if i < aa A ∨ j < ab A then fst6 A i j :: sq A f (i + o1 (fst6 A i j)) (j + o2 (fst6 A i j)) else []
noncomputable def SQ (A : zA) : List Nat := sq A 24 0 0
noncomputable def lsp (A : zA) (x : Int32) : Int32 := if x = (-3) then nI (SQ A).length else if ¬ x < 0 ∧ x.toNatClampNeg < (SQ A).length then nI ((SQ A).getD x.toNatClampNeg 0) else -6
theorem sq_end {A : zA} {f i j : Nat} (h : ¬ (i < aa A ∨ j < ab A)) : sq A f i j = [] := by
  cases f with
  | zero => rfl
  | succ f => rw [sq, if_neg h]
theorem sq_step {A : zA} {f i j : Nat} (hf : 0 < f) (h : i < aa A ∨ j < ab A) : sq A f i j = fst6 A i j :: sq A (f - 1) (i + o1 (fst6 A i j)) (j + o2 (fst6 A i j)) := by
  obtain ⟨g, rfl⟩ : ∃ g, f = g + 1 := ⟨f - 1, by omega⟩
  rw [sq, if_pos h]; rfl
theorem sq_len {A : zA} : ∀ f i j, (sq A f i j).length ≤ f
  | 0, _, _ => Nat.le_refl _
  | f + 1, i, j => by
    rw [sq]
    split
    · have := sq_len (A := A) f (i + o1 (fst6 A i j)) (j + o2 (fst6 A i j))
      simp; exact this
    · exact Nat.zero_le _
