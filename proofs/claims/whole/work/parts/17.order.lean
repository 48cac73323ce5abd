/-! ===== bits ===== -/
theorem zz_and (a b : Nat) : nI a &&& nI b = nI (a &&& b) := by
  apply Int32.toBitVec_inj.1
  show BitVec.ofNat 32 a &&& BitVec.ofNat 32 b = BitVec.ofNat 32 (a &&& b)
  apply BitVec.eq_of_getLsbD_eq
  intro i hi
  simp [hi]
theorem zz_or (a b : Nat) : nI a ||| nI b = nI (a ||| b) := by
  apply Int32.toBitVec_inj.1
  show BitVec.ofNat 32 a ||| BitVec.ofNat 32 b = BitVec.ofNat 32 (a ||| b)
  apply BitVec.eq_of_getLsbD_eq
  intro i hi
  simp [hi]
theorem zz_s31 {k : Nat} (hk : k < 31) : (nI k &&& (31 : Int32)) = nI k := by
  rw [show (31 : Int32) = nI (2 ^ 5 - 1) from rfl, zz_and, Nat.and_two_pow_sub_one_eq_mod, Nat.mod_eq_of_lt (by omega)]
theorem zz_smod : ∀ k, k < 31 → ((nI k).toBitVec.smod 32).toNat = k := by decide +kernel
theorem zz_shl1 {k : Nat} (hk : k < 31) : nI 1 <<< (nI k &&& (31 : Int32)) = nI (2 ^ k) := by
  rw [zz_s31 hk, pk_shlN (nI k) k (zz_smod k hk) (by
    have : (2 : Nat) ^ k < 2 ^ 31 := Nat.pow_lt_pow_right (by decide) hk
    omega), Nat.one_mul]
theorem zz_shr {a k : Nat} (ha : a < 2 ^ 31) (hk : k < 31) : nI a >>> (nI k &&& (31 : Int32)) = nI (a / 2 ^ k) := by
  rw [zz_s31 hk, pk_shrN ha (nI k) k (zz_smod k hk)]
theorem zz_tb (a j : Nat) : a / 2 ^ j &&& 1 = (if a.testBit j then 1 else 0) := by
  rw [Nat.testBit_eq_decide_div_mod_eq, show (1 : Nat) = 2 ^ 1 - 1 from rfl, Nat.and_two_pow_sub_one_eq_mod]
  have h : a / 2 ^ j % 2 < 2 := Nat.mod_lt _ (by decide)
  rcases (show a / 2 ^ j % 2 = 0 ∨ a / 2 ^ j % 2 = 1 by omega) with e | e <;> simp [e]
theorem zz_tb_le (a j : Nat) : a / 2 ^ j &&& 1 ≤ 1 := by rw [zz_tb]; split <;> omega
theorem zz_tb1 {a j : Nat} : (a / 2 ^ j &&& 1 = 1) ↔ a.testBit j = true := by
  rw [zz_tb]
  cases a.testBit j <;> simp
theorem zz_tb0 {a j : Nat} : (a / 2 ^ j &&& 1 = 0) ↔ a.testBit j = false := by
  rw [zz_tb]
  cases a.testBit j <;> simp
theorem zz_pw {k : Nat} {n : Nat} (h : k < n) : (2 : Nat) ^ k < 2 ^ n := Nat.pow_lt_pow_right (by decide) h
theorem zz_pw2 {k : Nat} {n : Nat} (h : k ≤ n) : (2 : Nat) ^ k ≤ 2 ^ n := Nat.pow_le_pow_right (by decide) h
theorem zz_or_lt {a k n : Nat} (ha : a < 2 ^ n) (hk : k < n) : a ||| 2 ^ k < 2 ^ n := Nat.or_lt_two_pow ha (zz_pw hk)
theorem zz_or_tb (a k j : Nat) : (a ||| 2 ^ k).testBit j = (a.testBit j || decide (k = j)) := by
  rw [Nat.testBit_or, Nat.testBit_two_pow]
theorem zz_or_gt {a k : Nat} (h : a.testBit k = false) : a < a ||| 2 ^ k := by
  refine Nat.lt_of_le_of_ne Nat.left_le_or (fun e => ?_)
  have h1 := zz_or_tb a k k
  rw [← e, h] at h1
  simp at h1
theorem zz_miss {n a : Nat} (h : a < 2 ^ n - 1) : ∃ k, k < n ∧ a.testBit k = false := by
  apply Classical.byContradiction
  intro hc
  have h1 : ∀ k, k < n → a.testBit k = true := by
    intro k hk
    cases hb : a.testBit k with
    | true => rfl
    | false => exact absurd ⟨k, hk, hb⟩ hc
  have h2 : a = 2 ^ n - 1 := by
    apply Nat.eq_of_testBit_eq
    intro i
    rw [Nat.testBit_two_pow_sub_one]
    by_cases hi : i < n
    · rw [h1 i hi]; simp [hi]
    · rw [Nat.testBit_lt_two_pow (Nat.lt_of_lt_of_le (show a < 2 ^ n by omega) (zz_pw2 (by omega)))]
      simp [hi]
  omega
/-! ===== the order ===== -/
def aln (A : zA) (k : Nat) : Nat → Nat
  | 0 => rt A 4
  | n + 1 => min (aln A k n) (rt A (bnd (mtc A k n)))
def bes (A : zA) (k j : Nat) : Nat := rt A (bnd (lkT A k j))
def lst (A : zA) (k done : Nat) : Nat → Nat
  | 0 => aln A k (aN A)
  | n + 1 => if done.testBit n then min (lst A k done n) (bes A k n) else lst A k done n
def cst (A : zA) (k done : Nat) : Nat := tz A k * lst A k done (aM A)
theorem aln_le {A : zA} (hW : WF A) (k : Nat) : ∀ n, aln A k n ≤ 99
  | 0 => hW.2.2.2.1 4 (by decide)
  | n + 1 => by have := aln_le hW k n; rw [aln]; omega
theorem lst_le {A : zA} (hW : WF A) (k done : Nat) : ∀ n, lst A k done n ≤ 99
  | 0 => aln_le hW k _
  | n + 1 => by
    have := lst_le hW k done n
    rw [lst]
    split <;> omega
theorem cst_le {A : zA} (hW : WF A) {k : Nat} (hk : k < aM A) (done : Nat) : cst A k done ≤ 1188 :=
  Nat.le_trans (Nat.mul_le_mul (hW.2.2.1 k hk).1.2 (lst_le hW k done _)) (by decide)
/-- the least, and the first that has it -/
def mno (A : zA) (B : Nat → Nat) (done : Nat) : Nat → Option (Nat × Nat)
  | 0 => none
  | n + 1 => if done.testBit n then mno A B done n else match mno A B done n with
    | none => some (cst A n done + B (done ||| 2 ^ n), n)
    | some (w, k) => if cst A n done + B (done ||| 2 ^ n) < w then some (cst A n done + B (done ||| 2 ^ n), n) else some (w, k)
def mov (x : Option (Nat × Nat)) : Nat := match x with
  | none => 1000000
  | some (v, _) => v
theorem mno_t {A : zA} {B : Nat → Nat} {done n : Nat} (h : done.testBit n = true) : mno A B done (n + 1) = mno A B done n := by
  rw [mno, if_pos h]
theorem mno_n {A : zA} {B : Nat → Nat} {done n : Nat} (h : done.testBit n = false) (h2 : mno A B done n = none) : mno A B done (n + 1) = some (cst A n done + B (done ||| 2 ^ n), n) := by
  rw [mno, if_neg (by rw [h]; decide), h2]
theorem mno_s {A : zA} {B : Nat → Nat} {done n w k : Nat} (h : done.testBit n = false) (h2 : mno A B done n = some (w, k)) : mno A B done (n + 1) = if cst A n done + B (done ||| 2 ^ n) < w then some (cst A n done + B (done ||| 2 ^ n), n) else some (w, k) := by
  rw [mno, if_neg (by rw [h]; decide), h2]
theorem mno_cong {A : zA} {B B' : Nat → Nat} {done : Nat} : ∀ n, (∀ k, k < n → done.testBit k = false → B (done ||| 2 ^ k) = B' (done ||| 2 ^ k)) → mno A B done n = mno A B' done n
  | 0, _ => rfl
  | n + 1, h => by
    have ih := mno_cong (A := A) n (fun k hk => h k (by omega))
    cases hb : done.testBit n with
    | true => rw [mno_t hb, mno_t hb, ih]
    | false =>
      have e := h n (by omega) hb
      cases hx : mno A B' done n with
      | none => rw [mno_n hb (ih.trans hx), mno_n hb hx, e]
      | some y => rw [mno_s hb (ih.trans hx), mno_s hb hx, e]
/-- what stands there is of a k that is not done, it is the least, and the first such -/
theorem mno_spec {A : zA} {B : Nat → Nat} {done : Nat} : ∀ n, (mno A B done n = none ∧ ∀ k, k < n → done.testBit k = true) ∨ ∃ w k, mno A B done n = some (w, k) ∧ k < n ∧ done.testBit k = false ∧ w = cst A k done + B (done ||| 2 ^ k) ∧ (∀ j, j < n → done.testBit j = false → w ≤ cst A j done + B (done ||| 2 ^ j)) ∧ ∀ j, j < k → done.testBit j = false → w < cst A j done + B (done ||| 2 ^ j)
  | 0 => Or.inl ⟨rfl, fun k hk => absurd hk (Nat.not_lt_zero k)⟩
  | n + 1 => by
    rcases mno_spec (A := A) (B := B) (done := done) n with ⟨h1, h2⟩ | ⟨w, k, h1, h2, h3, h4, h5, h6⟩
    · cases hb : done.testBit n with
      | true => exact Or.inl ⟨by rw [mno_t hb, h1], fun k hk => by
          by_cases e : k = n
          · rw [e]; exact hb
          · exact h2 k (by omega)⟩
      | false =>
        refine Or.inr ⟨_, n, mno_n hb h1, by omega, hb, rfl, fun j hj hjb => ?_, fun j hj hjb => ?_⟩
        · by_cases e : j = n
          · rw [e]; exact Nat.le_refl _
          · rw [h2 j (by omega)] at hjb; cases hjb
        · rw [h2 j hj] at hjb; cases hjb
    · cases hb : done.testBit n with
      | true =>
        refine Or.inr ⟨w, k, by rw [mno_t hb, h1], by omega, h3, h4, fun j hj hjb => ?_, h6⟩
        by_cases e : j = n
        · rw [e, hb] at hjb; cases hjb
        · exact h5 j (by omega) hjb
      | false =>
        have e0 := mno_s hb h1
        by_cases hl : cst A n done + B (done ||| 2 ^ n) < w
        · rw [if_pos hl] at e0
          refine Or.inr ⟨_, n, e0, by omega, hb, rfl, fun j hj hjb => ?_, fun j hj hjb => ?_⟩
          · by_cases e : j = n
            · rw [e]; exact Nat.le_refl _
            · have := h5 j (by omega) hjb; omega
          · have := h5 j (by omega) hjb; omega
        · rw [if_neg hl] at e0
          refine Or.inr ⟨w, k, e0, by omega, h3, h4, fun j hj hjb => ?_, h6⟩
          by_cases e : j = n
          · rw [e]; omega
          · exact h5 j (by omega) hjb
def bt (A : zA) : Nat → Nat → Nat
  | 0, _ => 0
  | f + 1, done => if done < 2 ^ aM A - 1 then mov (mno A (bt A f) done (aM A)) else 0
def BT (A : zA) (done : Nat) : Nat := bt A 1024 done
theorem bt_irr (A : zA) : ∀ n done, 2 ^ aM A - 1 - done ≤ n → ∀ f f', n ≤ f → n ≤ f' → bt A f done = bt A f' done := by
  intro n
  induction n with
  | zero =>
    intro done h f f' _ _
    have h0 : ∀ f, bt A f done = 0 := by
      intro f
      cases f with
      | zero => rfl
      | succ f => rw [bt, if_neg (by omega)]
    rw [h0, h0]
  | succ n ih =>
    intro done h f f' hf hf'
    cases f with
    | zero => omega
    | succ f =>
      cases f' with
      | zero => omega
      | succ f' =>
        rw [bt, bt]
        by_cases hd : done < 2 ^ aM A - 1
        · rw [if_pos hd, if_pos hd, mno_cong (aM A) (fun k hk hb => ?_)]
          have h1 := zz_or_gt hb
          exact ih _ (by omega) f f' (by omega) (by omega)
        · rw [if_neg hd, if_neg hd]
theorem BT_rec {A : zA} (hM : aM A ≤ 10) {done : Nat} (hd : done < 2 ^ aM A - 1) : BT A done = mov (mno A (BT A) done (aM A)) := by
  have hp : (2 : Nat) ^ aM A ≤ 2 ^ 10 := zz_pw2 hM
  show bt A 1024 done = _
  rw [bt, if_pos hd, mno_cong (aM A) (fun k hk hb => ?_)]
  have h1 := zz_or_gt hb
  exact bt_irr A 1023 _ (by omega) 1023 1024 (by omega) (by omega)
theorem BT_all (A : zA) : BT A (2 ^ aM A - 1) = 0 := by
  show bt A 1024 _ = 0
  rw [bt, if_neg (by omega)]
/-- how much the rest can cost at most -/
def wgt (done : Nat) : Nat → Nat
  | 0 => 0
  | n + 1 => wgt done n + if done.testBit n then 0 else 1188
theorem wgt_le (done : Nat) : ∀ n, wgt done n ≤ 1188 * n
  | 0 => Nat.le_refl _
  | n + 1 => by have := wgt_le done n; rw [wgt]; split <;> omega
theorem wgt_same {done k : Nat} : ∀ n, n ≤ k → wgt (done ||| 2 ^ k) n = wgt done n
  | 0, _ => rfl
  | n + 1, h => by
    rw [wgt, wgt, wgt_same n (by omega), zz_or_tb]
    simp [show ¬ k = n by omega]
theorem wgt_step {done k : Nat} (hb : done.testBit k = false) : ∀ n, k < n → wgt (done ||| 2 ^ k) n + 1188 = wgt done n
  | 0, h => absurd h (Nat.not_lt_zero k)
  | n + 1, h => by
    rw [wgt, wgt, zz_or_tb]
    by_cases e : k = n
    · subst e
      rw [wgt_same k (Nat.le_refl k), hb]
      simp
    · have := wgt_step hb n (by omega)
      have e2 : (decide (k = n)) = false := by simp [e]
      rw [e2, Bool.or_false]
      omega
theorem bt_le {A : zA} (hW : WF A) : ∀ f done, bt A f done ≤ wgt done (aM A)
  | 0, _ => Nat.zero_le _
  | f + 1, done => by
    rw [bt]
    split
    · next hd =>
      obtain ⟨k, hk, hb⟩ := zz_miss hd
      rcases mno_spec (A := A) (B := bt A f) (done := done) (aM A) with ⟨-, h2⟩ | ⟨w, k', h1, h2, h3, h4, h5, h6⟩
      · rw [h2 k hk] at hb; cases hb
      · rw [h1]
        show w ≤ _
        have a1 := h5 k hk hb
        have a2 := cst_le hW hk done
        have a3 := bt_le hW f (done ||| 2 ^ k)
        have a4 := wgt_step hb (aM A) hk
        omega
    · exact Nat.zero_le _
theorem BT_le {A : zA} (hW : WF A) (done : Nat) : BT A done ≤ 11880 := by
  have h1 := bt_le hW 1024 done
  have h2 := wgt_le done (aM A)
  have h3 := hW.1.2.1
  show bt A 1024 done ≤ _
  omega
theorem mov_lt {A : zA} (hW : WF A) {done n : Nat} (hn : n ≤ aM A) {w k : Nat} (h : mno A (BT A) done n = some (w, k)) : w < 20000 ∧ k < n ∧ done.testBit k = false := by
  rcases mno_spec (A := A) (B := BT A) (done := done) n with ⟨h1, -⟩ | ⟨w', k', h1, h2, h3, h4, -⟩
  · rw [h1] at h; cases h
  · rw [h1] at h
    cases h
    have a2 := cst_le hW (show k < aM A by omega) done
    have a3 := BT_le hW (done ||| 2 ^ k)
    exact ⟨by omega, h2, h3⟩
/-- the sequence: what is done ahead of the i-th; the i-th -/
def nxt (A : zA) (done : Nat) : Nat := match mno A (BT A) done (aM A) with
  | none => 0
  | some (_, k) => k
def dn (A : zA) : Nat → Nat
  | 0 => 0
  | i + 1 => dn A i ||| 2 ^ nxt A (dn A i)
theorem wgt_pos {done : Nat} : ∀ n, 0 < wgt done n → ∃ k, k < n ∧ done.testBit k = false
  | 0, h => absurd h (Nat.lt_irrefl 0)
  | n + 1, h => by
    cases hb : done.testBit n with
    | false => exact ⟨n, Nat.lt_succ_self n, hb⟩
    | true =>
      rw [wgt, hb] at h
      obtain ⟨k, h1, h2⟩ := wgt_pos n (by simpa using h)
      exact ⟨k, by omega, h2⟩
theorem nxt_spec {A : zA} {done : Nat} (hm : ∃ k, k < aM A ∧ done.testBit k = false) : ∃ w, mno A (BT A) done (aM A) = some (w, nxt A done) ∧ nxt A done < aM A ∧ done.testBit (nxt A done) = false ∧ w = cst A (nxt A done) done + BT A (done ||| 2 ^ nxt A done) ∧ ∀ j, j < nxt A done → done.testBit j = false → w < cst A j done + BT A (done ||| 2 ^ j) := by
  rcases mno_spec (A := A) (B := BT A) (done := done) (aM A) with ⟨-, h2⟩ | ⟨w, k, h1, h2, h3, h4, h5, h6⟩
  · obtain ⟨k, hk, hb⟩ := hm
    rw [h2 k hk] at hb; cases hb
  · have e : nxt A done = k := by rw [nxt, h1]
    rw [e]
    exact ⟨w, h1, h2, h3, h4, h6⟩
set_option maxRecDepth 100000 in
theorem dn_spec (A : zA) : ∀ i, i ≤ aM A → dn A i < 2 ^ aM A ∧ wgt (dn A i) (aM A) + 1188 * i = 1188 * aM A
  | 0, _ => by
    refine ⟨Nat.pow_pos (by decide), ?_⟩
    have h : ∀ n, wgt 0 n = 1188 * n := by
      intro n
      induction n with
      | zero => rfl
      | succ n ih => rw [wgt, ih]; simp; omega
    show wgt 0 _ + 0 = _
    rw [h]; rfl
  | i + 1, hi => by
    obtain ⟨h1, h2⟩ := dn_spec A i (by omega)
    obtain ⟨w, -, h3, h4, -⟩ := nxt_spec (A := A) (wgt_pos (done := dn A i) (aM A) (by omega))
    have h5 := wgt_step h4 (aM A) h3
    refine ⟨zz_or_lt h1 h3, ?_⟩
    have h6 : wgt (dn A (i + 1)) (aM A) = wgt (dn A i ||| 2 ^ nxt A (dn A i)) (aM A) := by rw [dn]
    rw [h6]
    clear h6 h1 h3 h4
    generalize wgt (dn A i ||| 2 ^ nxt A (dn A i)) (aM A) = u at h5 ⊢
    generalize wgt (dn A i) (aM A) = v at h2 h5
    generalize aM A = z at h2 hi ⊢
    omega
theorem dn_miss (A : zA) {i : Nat} (hi : i < aM A) : ∃ k, k < aM A ∧ (dn A i).testBit k = false := by
  obtain ⟨-, h2⟩ := dn_spec A i (by omega)
  exact wgt_pos (aM A) (by omega)
theorem zz_full {done n : Nat} (hd : done < 2 ^ n) (hm : ∃ k, k < n ∧ done.testBit k = false) : done < 2 ^ n - 1 := by
  obtain ⟨k, hk, hb⟩ := hm
  rcases Nat.lt_or_ge done (2 ^ n - 1) with h | h
  · exact h
  · have e : done = 2 ^ n - 1 := by omega
    rw [e, Nat.testBit_two_pow_sub_one] at hb
    simp [hk] at hb
theorem mov_lt' {A : zA} (hW : WF A) {done k : Nat} (hk : k < aM A) (hb : done.testBit k = false) (h : cst A k done + BT A (done ||| 2 ^ k) < mov (mno A (BT A) done k)) : cst A k done + BT A (done ||| 2 ^ k) = mov (mno A (BT A) done (k + 1)) := by
  cases hx : mno A (BT A) done k with
  | none => rw [mno_n hb hx]; rfl
  | some y =>
    obtain ⟨w, k'⟩ := y
    rw [hx] at h
    have h9 : cst A k done + BT A (done ||| 2 ^ k) < w := h
    rw [mno_s hb hx, if_pos h9]; rfl
theorem mov_ge' {A : zA} (hW : WF A) {done k : Nat} (hk : k < aM A) (hb : done.testBit k = false) (h : cst A k done + BT A (done ||| 2 ^ k) ≥ mov (mno A (BT A) done k)) : mov (mno A (BT A) done k) = mov (mno A (BT A) done (k + 1)) := by
  cases hx : mno A (BT A) done k with
  | none =>
    rw [hx] at h
    have a2 := cst_le hW hk done
    have a3 := BT_le hW (done ||| 2 ^ k)
    have h9 : (1000000 : Nat) ≤ cst A k done + BT A (done ||| 2 ^ k) := h
    omega
  | some y =>
    obtain ⟨w, k'⟩ := y
    rw [hx] at h
    have h9 : w ≤ cst A k done + BT A (done ||| 2 ^ k) := h
    rw [mno_s hb hx, if_neg (by omega)]
theorem mov_le {A : zA} (hW : WF A) {done k : Nat} (hk : k ≤ aM A) : mov (mno A (BT A) done k) ≤ 1000000 := by
  cases hx : mno A (BT A) done k with
  | none => exact Nat.le_refl _
  | some y =>
    obtain ⟨w, k'⟩ := y
    have := (mov_lt hW hk hx).1
    show w ≤ 1000000
    omega
