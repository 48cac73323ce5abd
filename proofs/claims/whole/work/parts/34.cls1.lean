/-! ===== the class: rows by number ===== -/
theorem zz_r36 : ∀ p, p < 12 → zz_row (36 + 4 * p) 12 := by
  intro p hp
  rcases (by omega : p = 0 ∨ p = 1 ∨ p = 2 ∨ p = 3 ∨ p = 4 ∨ p = 5 ∨ p = 6 ∨ p = 7 ∨ p = 8 ∨ p = 9 ∨ p = 10 ∨ p = 11) with rfl | rfl | rfl | rfl | rfl | rfl | rfl | rfl | rfl | rfl | rfl | rfl
  all_goals exact ⟨rfl, rfl, by decide⟩
theorem zz_a36 : ∀ p, p < 12 → ([some 36, some 40, some 44, some 48, some 52, some 56, some 60, some 64, some 68, some 72, some 76, some 80] : List (Option Nat))[p]? = some (some (36 + 4 * p)) := by decide
theorem zz_r38 : ∀ p, p < 12 → zz_row (38 + 4 * p) 12 := by
  intro p hp
  rcases (by omega : p = 0 ∨ p = 1 ∨ p = 2 ∨ p = 3 ∨ p = 4 ∨ p = 5 ∨ p = 6 ∨ p = 7 ∨ p = 8 ∨ p = 9 ∨ p = 10 ∨ p = 11) with rfl | rfl | rfl | rfl | rfl | rfl | rfl | rfl | rfl | rfl | rfl | rfl
  all_goals exact ⟨rfl, rfl, by decide⟩
theorem zz_a38 : ∀ p, p < 12 → ([some 38, some 42, some 46, some 50, some 54, some 58, some 62, some 66, some 70, some 74, some 78, some 82] : List (Option Nat))[p]? = some (some (38 + 4 * p)) := by decide
theorem zz_r84 : ∀ p, p < 10 → zz_row (84 + 2 * p) 12 := by
  intro p hp
  rcases (by omega : p = 0 ∨ p = 1 ∨ p = 2 ∨ p = 3 ∨ p = 4 ∨ p = 5 ∨ p = 6 ∨ p = 7 ∨ p = 8 ∨ p = 9) with rfl | rfl | rfl | rfl | rfl | rfl | rfl | rfl | rfl | rfl
  all_goals exact ⟨rfl, rfl, by decide⟩
theorem zz_a84 : ∀ p, p < 10 → ([some 84, some 86, some 88, some 90, some 92, some 94, some 96, some 98, some 100, some 102] : List (Option Nat))[p]? = some (some (84 + 2 * p)) := by decide
theorem zz_s9 : ∀ p, p < 10 → zz_SH[9 + p]? = some (.inr (0, 12, [])) := by
  intro p hp
  rcases (by omega : p = 0 ∨ p = 1 ∨ p = 2 ∨ p = 3 ∨ p = 4 ∨ p = 5 ∨ p = 6 ∨ p = 7 ∨ p = 8 ∨ p = 9) with rfl | rfl | rfl | rfl | rfl | rfl | rfl | rfl | rfl | rfl
  all_goals rfl
theorem zz_b9 : ∀ p, p < 10 → ([some 9, some 10, some 11, some 12, some 13, some 14, some 15, some 16, some 17, some 18] : List (Option Nat))[p]? = some (some (9 + p)) := by decide
theorem zz_s20 : ∀ p, p < 10 → zz_SH[20 + p]? = some (.inr (0, 10, [])) := by
  intro p hp
  rcases (by omega : p = 0 ∨ p = 1 ∨ p = 2 ∨ p = 3 ∨ p = 4 ∨ p = 5 ∨ p = 6 ∨ p = 7 ∨ p = 8 ∨ p = 9) with rfl | rfl | rfl | rfl | rfl | rfl | rfl | rfl | rfl | rfl
  all_goals rfl
theorem zz_b20 : ∀ p, p < 10 → ([some 20, some 21, some 22, some 23, some 24, some 25, some 26, some 27, some 28, some 29] : List (Option Nat))[p]? = some (some (20 + p)) := by decide
theorem zz_r138 : ∀ p, p < 12 → zz_row (138 + 4 * p) 12 := by
  intro p hp
  rcases (by omega : p = 0 ∨ p = 1 ∨ p = 2 ∨ p = 3 ∨ p = 4 ∨ p = 5 ∨ p = 6 ∨ p = 7 ∨ p = 8 ∨ p = 9 ∨ p = 10 ∨ p = 11) with rfl | rfl | rfl | rfl | rfl | rfl | rfl | rfl | rfl | rfl | rfl | rfl
  all_goals exact ⟨rfl, rfl, by decide⟩
theorem zz_a138 : ∀ p, p < 12 → ([some 138, some 142, some 146, some 150, some 154, some 158, some 162, some 166, some 170, some 174, some 178, some 182] : List (Option Nat))[p]? = some (some (138 + 4 * p)) := by decide
theorem zz_r140 : ∀ p, p < 12 → zz_row (140 + 4 * p) 12 := by
  intro p hp
  rcases (by omega : p = 0 ∨ p = 1 ∨ p = 2 ∨ p = 3 ∨ p = 4 ∨ p = 5 ∨ p = 6 ∨ p = 7 ∨ p = 8 ∨ p = 9 ∨ p = 10 ∨ p = 11) with rfl | rfl | rfl | rfl | rfl | rfl | rfl | rfl | rfl | rfl | rfl | rfl
  all_goals exact ⟨rfl, rfl, by decide⟩
theorem zz_a140 : ∀ p, p < 12 → ([some 140, some 144, some 148, some 152, some 156, some 160, some 164, some 168, some 172, some 176, some 180, some 184] : List (Option Nat))[p]? = some (some (140 + 4 * p)) := by decide
theorem zz_r186 : ∀ p, p < 10 → zz_row (186 + 2 * p) 12 := by
  intro p hp
  rcases (by omega : p = 0 ∨ p = 1 ∨ p = 2 ∨ p = 3 ∨ p = 4 ∨ p = 5 ∨ p = 6 ∨ p = 7 ∨ p = 8 ∨ p = 9) with rfl | rfl | rfl | rfl | rfl | rfl | rfl | rfl | rfl | rfl
  all_goals exact ⟨rfl, rfl, by decide⟩
theorem zz_a186 : ∀ p, p < 10 → ([some 186, some 188, some 190, some 192, some 194, some 196, some 198, some 200, some 202, some 204] : List (Option Nat))[p]? = some (some (186 + 2 * p)) := by decide
theorem zz_s111 : ∀ p, p < 10 → zz_SH[111 + p]? = some (.inr (0, 12, [])) := by
  intro p hp
  rcases (by omega : p = 0 ∨ p = 1 ∨ p = 2 ∨ p = 3 ∨ p = 4 ∨ p = 5 ∨ p = 6 ∨ p = 7 ∨ p = 8 ∨ p = 9) with rfl | rfl | rfl | rfl | rfl | rfl | rfl | rfl | rfl | rfl
  all_goals rfl
theorem zz_b111 : ∀ p, p < 10 → ([some 111, some 112, some 113, some 114, some 115, some 116, some 117, some 118, some 119, some 120] : List (Option Nat))[p]? = some (some (111 + p)) := by decide
theorem zz_s122 : ∀ p, p < 10 → zz_SH[122 + p]? = some (.inr (0, 10, [])) := by
  intro p hp
  rcases (by omega : p = 0 ∨ p = 1 ∨ p = 2 ∨ p = 3 ∨ p = 4 ∨ p = 5 ∨ p = 6 ∨ p = 7 ∨ p = 8 ∨ p = 9) with rfl | rfl | rfl | rfl | rfl | rfl | rfl | rfl | rfl | rfl
  all_goals rfl
theorem zz_b122 : ∀ p, p < 10 → ([some 122, some 123, some 124, some 125, some 126, some 127, some 128, some 129, some 130, some 131] : List (Option Nat))[p]? = some (some (122 + p)) := by decide
theorem zz_r239 : ∀ p, p < 12 → zz_row (239 + 4 * p) 12 := by
  intro p hp
  rcases (by omega : p = 0 ∨ p = 1 ∨ p = 2 ∨ p = 3 ∨ p = 4 ∨ p = 5 ∨ p = 6 ∨ p = 7 ∨ p = 8 ∨ p = 9 ∨ p = 10 ∨ p = 11) with rfl | rfl | rfl | rfl | rfl | rfl | rfl | rfl | rfl | rfl | rfl | rfl
  all_goals exact ⟨rfl, rfl, by decide⟩
theorem zz_a239 : ∀ p, p < 12 → ([some 239, some 243, some 247, some 251, some 255, some 259, some 263, some 267, some 271, some 275, some 279, some 283] : List (Option Nat))[p]? = some (some (239 + 4 * p)) := by decide
theorem zz_r241 : ∀ p, p < 12 → zz_row (241 + 4 * p) 12 := by
  intro p hp
  rcases (by omega : p = 0 ∨ p = 1 ∨ p = 2 ∨ p = 3 ∨ p = 4 ∨ p = 5 ∨ p = 6 ∨ p = 7 ∨ p = 8 ∨ p = 9 ∨ p = 10 ∨ p = 11) with rfl | rfl | rfl | rfl | rfl | rfl | rfl | rfl | rfl | rfl | rfl | rfl
  all_goals exact ⟨rfl, rfl, by decide⟩
theorem zz_a241 : ∀ p, p < 12 → ([some 241, some 245, some 249, some 253, some 257, some 261, some 265, some 269, some 273, some 277, some 281, some 285] : List (Option Nat))[p]? = some (some (241 + 4 * p)) := by decide
theorem zz_r287 : ∀ p, p < 10 → zz_row (287 + 2 * p) 12 := by
  intro p hp
  rcases (by omega : p = 0 ∨ p = 1 ∨ p = 2 ∨ p = 3 ∨ p = 4 ∨ p = 5 ∨ p = 6 ∨ p = 7 ∨ p = 8 ∨ p = 9) with rfl | rfl | rfl | rfl | rfl | rfl | rfl | rfl | rfl | rfl
  all_goals exact ⟨rfl, rfl, by decide⟩
theorem zz_a287 : ∀ p, p < 10 → ([some 287, some 289, some 291, some 293, some 295, some 297, some 299, some 301, some 303, some 305] : List (Option Nat))[p]? = some (some (287 + 2 * p)) := by decide
theorem zz_s212 : ∀ p, p < 10 → zz_SH[212 + p]? = some (.inr (0, 12, [])) := by
  intro p hp
  rcases (by omega : p = 0 ∨ p = 1 ∨ p = 2 ∨ p = 3 ∨ p = 4 ∨ p = 5 ∨ p = 6 ∨ p = 7 ∨ p = 8 ∨ p = 9) with rfl | rfl | rfl | rfl | rfl | rfl | rfl | rfl | rfl | rfl
  all_goals rfl
theorem zz_b212 : ∀ p, p < 10 → ([some 212, some 213, some 214, some 215, some 216, some 217, some 218, some 219, some 220, some 221] : List (Option Nat))[p]? = some (some (212 + p)) := by decide
theorem zz_s223 : ∀ p, p < 10 → zz_SH[223 + p]? = some (.inr (0, 10, [])) := by
  intro p hp
  rcases (by omega : p = 0 ∨ p = 1 ∨ p = 2 ∨ p = 3 ∨ p = 4 ∨ p = 5 ∨ p = 6 ∨ p = 7 ∨ p = 8 ∨ p = 9) with rfl | rfl | rfl | rfl | rfl | rfl | rfl | rfl | rfl | rfl
  all_goals rfl
theorem zz_b223 : ∀ p, p < 10 → ([some 223, some 224, some 225, some 226, some 227, some 228, some 229, some 230, some 231, some 232] : List (Option Nat))[p]? = some (some (223 + p)) := by decide
theorem zz_s313 : ∀ p, p < 10 → zz_SH[313 + p]? = some (.inr (0, 5, [])) := by
  intro p hp
  rcases (by omega : p = 0 ∨ p = 1 ∨ p = 2 ∨ p = 3 ∨ p = 4 ∨ p = 5 ∨ p = 6 ∨ p = 7 ∨ p = 8 ∨ p = 9) with rfl | rfl | rfl | rfl | rfl | rfl | rfl | rfl | rfl | rfl
  all_goals rfl
theorem zz_b313 : ∀ p, p < 10 → ([some 313, some 314, some 315, some 316, some 317, some 318, some 319, some 320, some 321, some 322] : List (Option Nat))[p]? = some (some (313 + p)) := by decide
theorem zz_s330 : ∀ p, p < 13 → zz_SH[330 + p]? = some (.inr (0, 13, [])) := by
  intro p hp
  rcases (by omega : p = 0 ∨ p = 1 ∨ p = 2 ∨ p = 3 ∨ p = 4 ∨ p = 5 ∨ p = 6 ∨ p = 7 ∨ p = 8 ∨ p = 9 ∨ p = 10 ∨ p = 11 ∨ p = 12) with rfl | rfl | rfl | rfl | rfl | rfl | rfl | rfl | rfl | rfl | rfl | rfl | rfl
  all_goals rfl
theorem zz_b330 : ∀ p, p < 13 → ([some 330, some 331, some 332, some 333, some 334, some 335, some 336, some 337, some 338, some 339, some 340, some 341, some 342] : List (Option Nat))[p]? = some (some (330 + p)) := by decide
theorem zz_s344 : ∀ p, p < 13 → zz_SH[344 + p]? = some (.inr (1, 13, [])) := by
  intro p hp
  rcases (by omega : p = 0 ∨ p = 1 ∨ p = 2 ∨ p = 3 ∨ p = 4 ∨ p = 5 ∨ p = 6 ∨ p = 7 ∨ p = 8 ∨ p = 9 ∨ p = 10 ∨ p = 11 ∨ p = 12) with rfl | rfl | rfl | rfl | rfl | rfl | rfl | rfl | rfl | rfl | rfl | rfl | rfl
  all_goals rfl
theorem zz_b344 : ∀ p, p < 13 → ([some 344, some 345, some 346, some 347, some 348, some 349, some 350, some 351, some 352, some 353, some 354, some 355, some 356] : List (Option Nat))[p]? = some (some (344 + p)) := by decide
def zz_rf (I : Nat → Nat → Int32) (k s : Nat) (f : Nat → Nat) : Prop := I k 1 = nI s ∧ ∀ j, j < s → I (k + 1) j = nI (f j)
theorem zz_rf.fr {I I' : Nat → Nat → Int32} {k s : Nat} {f : Nat → Nat} (h : zz_rf I k s f) (h1 : I' k = I k) (h2 : I' (k + 1) = I (k + 1)) : zz_rf I' k s f := ⟨by rw [h1]; exact h.1, fun j hj => by rw [h2]; exact h.2 j hj⟩
theorem zz_rf.at {I : Nat → Nat → Int32} {k s n i : Nat} {f : Nat → Nat} (h : zz_rf I k s f) (hsn : s ≤ n) (hn : n < 100) (hi : i < s) : zz_rat I k n (nI i) = nI (f i) := by
  rw [zz_rat_in h.1 hsn hn hi]; exact h.2 i hi
theorem zz_min {a b : Nat} (ha : a < 2 ^ 31) (hb : b < 2 ^ 31) : (if nI b < nI a then nI b else nI a) = nI (min a b) := by
  by_cases h : b < a
  · rw [if_pos ((nI_ltI hb ha).mpr h), Nat.min_eq_right (by omega)]
  · rw [if_neg (fun q => h (zz_bL_t hb ha q)), Nat.min_eq_left (by omega)]
theorem zz_max {a b : Nat} (ha : a < 2 ^ 31) (hb : b < 2 ^ 31) : (if nI a < nI b then nI b else nI a) = nI (max a b) := by
  by_cases h : a < b
  · rw [if_pos ((nI_ltI ha hb).mpr h), Nat.max_eq_right (by omega)]
  · rw [if_neg (fun q => h (zz_bL_t ha hb q)), Nat.max_eq_left (by omega)]
theorem zz_cix {p : Int32} {N : Nat} (hN : N < 2 ^ 31) : zz_ix p N ↔ (¬ p < 0 ∧ ¬ nI N ≤ p) := by
  constructor
  · rintro ⟨j, hj, rfl⟩
    exact ⟨nI_pos (by omega), nI_ge (by omega) (by omega)⟩
  · rintro ⟨h1, h2⟩
    exact ⟨p.toNatClampNeg, zz_ni_lt h1 hN h2, zz_ni h1⟩
theorem zz_ix_ge {p : Int32} {N n : Nat} (h : zz_ix p N) (hn : N ≤ n) (hn2 : n < 2 ^ 31) : ¬ nI n ≤ p := by
  obtain ⟨j, hj, rfl⟩ := h
  exact nI_ge (by omega) (by omega)
/-- the class's memory at B holds A -/
def CM (B : Nat) (I : Nat → Nat → Int32) (A : zA) : Prop :=
  (I B 10 = nI (aN A) ∧ I B 11 = nI (aM A)) ∧
  (∀ p, p < aN A → I (B + 3) p = ob (aB A p) ∧ zz_rf I (B + 33 + 4 * p) (fz A p) (ff A p) ∧ zz_rf I (B + 35 + 4 * p) (gz A p) (gg A p)) ∧
  (∀ s, s < aM A → zz_rf I (B + 81 + 2 * s) (tz A s) (tt A s)) ∧
  (∀ r, r < 5 → I (B + 27) r = nI (rt A r)) ∧ (∀ w, w < 16 → I (B + 28) w = ob (mu A w)) ∧
  zz_rf I (B + 29) (aa A) (la A) ∧ zz_rf I (B + 31) (ab A) (lb A)
def CT (B : Nat) (I : Nat → Nat → Int32) (A : zA) : Prop := ∀ s, s < aM A → (∀ p, p < aN A → I (B + 6 + s) p = nI (mtc A s p)) ∧ ∀ t, t < aM A → I (B + 17 + s) t = nI (lkT A s t)
def CZ (B : Nat) (I : Nat → Nat → Int32) : Prop := (∀ p, p < 12 → (∃ s, s ≤ 12 ∧ I (B + 33 + 4 * p) 1 = nI s) ∧ ∃ s, s ≤ 12 ∧ I (B + 35 + 4 * p) 1 = nI s) ∧ ∀ s, s < 10 → ∃ t, t ≤ 12 ∧ I (B + 81 + 2 * s) 1 = nI t
def CR (B : Nat) (I : Nat → Nat → Int32) (A : zA) : Prop := CM B I A ∧ CT B I A ∧ CZ B I
theorem CM.fr {B : Nat} {I I' : Nat → Nat → Int32} {A : zA} (hW : WF A) (h : CM B I A) (hc : ∀ c, B ≤ c → c ≤ B + 100 → (c < B + 6 ∨ B + 26 < c) → I' c = I c) : CM B I' A := by
  obtain ⟨⟨v1, v2⟩, v3, v4, v5, v6, v7, v8⟩ := h
  have w1 := hW.1.1
  have w2 := hW.1.2.1
  refine ⟨⟨by rw [hc B (by omega) (by omega) (by omega)]; exact v1, by rw [hc B (by omega) (by omega) (by omega)]; exact v2⟩, fun p hp => ?_, fun s hs => ?_, fun r hr => ?_, fun w hw => ?_, ?_, ?_⟩
  · obtain ⟨a1, a2, a3⟩ := v3 p hp
    exact ⟨by rw [hc _ (by omega) (by omega) (by omega)]; exact a1, a2.fr (hc _ (by omega) (by omega) (by omega)) (hc _ (by omega) (by omega) (by omega)), a3.fr (hc _ (by omega) (by omega) (by omega)) (hc _ (by omega) (by omega) (by omega))⟩
  · exact (v4 s hs).fr (hc _ (by omega) (by omega) (by omega)) (hc _ (by omega) (by omega) (by omega))
  · rw [hc _ (by omega) (by omega) (by omega)]; exact v5 r hr
  · rw [hc _ (by omega) (by omega) (by omega)]; exact v6 w hw
  · exact v7.fr (hc _ (by omega) (by omega) (by omega)) (hc _ (by omega) (by omega) (by omega))
  · exact v8.fr (hc _ (by omega) (by omega) (by omega)) (hc _ (by omega) (by omega) (by omega))
theorem CT.fr {B : Nat} {I I' : Nat → Nat → Int32} {A : zA} (hW : WF A) (h : CT B I A) (hc : ∀ c, B + 6 ≤ c → c ≤ B + 26 → I' c = I c) : CT B I' A := by
  have w1 := hW.1.1
  have w2 := hW.1.2.1
  exact fun s hs => ⟨fun p hp => by rw [hc _ (by omega) (by omega)]; exact (h s hs).1 p hp, fun t ht => by rw [hc _ (by omega) (by omega)]; exact (h s hs).2 t ht⟩
theorem CZ.fr {B : Nat} {I I' : Nat → Nat → Int32} (h : CZ B I) (hc : ∀ c, B + 33 ≤ c → c ≤ B + 100 → I' c = I c) : CZ B I' := by
  refine ⟨fun p hp => ⟨?_, ?_⟩, fun s hs => ?_⟩
  · rw [hc _ (by omega) (by omega)]; exact (h.1 p hp).1
  · rw [hc _ (by omega) (by omega)]; exact (h.1 p hp).2
  · rw [hc _ (by omega) (by omega)]; exact h.2 s hs
theorem CR.fr {B : Nat} {I I' : Nat → Nat → Int32} {A : zA} (hW : WF A) (h : CR B I A) (hc : ∀ c, B ≤ c → c ≤ B + 100 → I' c = I c) : CR B I' A := ⟨h.1.fr hW (fun c h1 h2 _ => hc c h1 h2), h.2.1.fr hW (fun c h1 h2 => hc c (by omega) (by omega)), h.2.2.fr (fun c h1 h2 => hc c (by omega) h2)⟩
/-- what a query of the class may change -/
def zCq (I I' : Nat → Nat → Int32) : Prop := ∀ c, (c < 308 ∨ 358 < c) → I' c = I c
theorem zCq.rf (I : Nat → Nat → Int32) : zCq I I := fun _ _ => rfl
theorem zCq.tr {I I' I'' : Nat → Nat → Int32} (h : zCq I I') (h' : zCq I' I'') : zCq I I'' := fun c hc => (h' c hc).trans (h c hc)
theorem zCq.cs (I : Nat → Nat → Int32) (c : Nat) (h : Nat → Int32) (hc : 308 ≤ c ∧ c ≤ 358) : zCq I (zz_cs I c h) := fun x hx => zz_cs_ne (by omega)
theorem zCq.cm {I I' : Nat → Nat → Int32} {A : zA} (h : zCq I I') (hW : WF A) (hM : CM 3 I A) : CM 3 I' A := hM.fr hW (fun c _ h2 _ => h c (by omega))
theorem zCq.cr {I I' : Nat → Nat → Int32} {A : zA} (h : zCq I I') (hW : WF A) (hC : CR 3 I A) : CR 3 I' A := hC.fr hW (fun c _ h2 => h c (by omega))

set_option maxRecDepth 100000 in
set_option maxHeartbeats 4000000 in
theorem c_X2_isPair {sc : Nat × (Nat → Int32)} {d : Nat} (I : Nat → Nat → Int32) (J : Nat → Nat → Int64) (N : Nat) (p : Int32) (hN : I 3 10 = nI N) (hN2 : N ≤ 12) : EvM sc (d) 0 0 mX2_isPair [.ref 3, .int p] (zz_SH, I, J) (zz_tf (zz_ix p N) (zz_SH, I, J)) := by
  refine EvM.of (by decide) rfl (Nat.le_of_ble_eq_true rfl) ?_
  show Ev _ _ _ _ _ 0 [some (.ref 3), some (.int p)] [] (zz_SH, I, J) _
  refine Ev.run [(.iload_n 1, 1)] (pc' := 1) (L' := [some (.ref 3), some (.int p)]) (S' := [.int p]) rfl (by decide +kernel) rfl ?_
  refine Ev.if_lt (off := 21) (tgt := 22) (by decide +kernel) (by decide) (fun h1 => ?_) (fun h1 => ?_)
  · refine Ev.run [(.iconst 0, 1)] (pc' := 23) (L' := [some (.ref 3), some (.int p)]) (S' := [.int (nI 0)]) rfl (by decide +kernel) rfl ?_
    exact Ev.zret rfl (by decide +kernel) (Or.inl rfl) (⟨rfl, Or.inr ⟨rfl, fun q => ((zz_cix (by omega)).mp q).1 h1⟩⟩)
  · refine Ev.run [(.iload_n 1, 1), (.aload_n 0, 1), (.getfield 51, 3)] (pc' := 9) (L' := [some (.ref 3), some (.int p)]) (S' := [.int (I 3 10), .int p]) rfl (by decide +kernel) rfl ?_
    rw [hN]
    refine Ev.icmp_ge (off := 13) (tgt := 22) (by decide +kernel) (by decide) (fun h9 => ?_) (fun h9 => ?_)
    · refine Ev.run [(.iconst 0, 1)] (pc' := 23) (L' := [some (.ref 3), some (.int p)]) (S' := [.int (nI 0)]) rfl (by decide +kernel) rfl ?_
      exact Ev.zret rfl (by decide +kernel) (Or.inl rfl) (⟨rfl, Or.inr ⟨rfl, fun q => ((zz_cix (by omega)).mp q).2 h9⟩⟩)
    · refine Ev.run [(.iload_n 1, 1), (.bipush 12, 2)] (pc' := 15) (L' := [some (.ref 3), some (.int p)]) (S' := [.int (nI 12), .int p]) rfl (by decide +kernel) rfl ?_
      refine Ev.icmp_ge (off := 7) (tgt := 22) (by decide +kernel) (by decide) (fun h15 => ?_) (fun h15 => ?_)
      · refine Ev.run [(.iconst 0, 1)] (pc' := 23) (L' := [some (.ref 3), some (.int p)]) (S' := [.int (nI 0)]) rfl (by decide +kernel) rfl ?_
        exact Ev.zret rfl (by decide +kernel) (Or.inl rfl) (⟨rfl, Or.inr ⟨rfl, fun q => zz_ix_ge q hN2 (by decide) h15⟩⟩)
      · refine Ev.run [(.iconst 1, 1)] (pc' := 19) (L' := [some (.ref 3), some (.int p)]) (S' := [.int (nI 1)]) rfl (by decide +kernel) rfl ?_
        refine Ev.goto (off := 4) (tgt := 23) (by decide +kernel) (by decide) ?_
        exact Ev.zret rfl (by decide +kernel) (Or.inr rfl) (⟨rfl, Or.inl ⟨rfl, (zz_cix (by omega)).mpr ⟨h1, h9⟩⟩⟩)

set_option maxRecDepth 100000 in
set_option maxHeartbeats 4000000 in
theorem c_X2_isSentence {sc : Nat × (Nat → Int32)} {d : Nat} (I : Nat → Nat → Int32) (J : Nat → Nat → Int64) (N : Nat) (p : Int32) (hN : I 3 11 = nI N) (hN2 : N ≤ 10) : EvM sc (d) 0 0 mX2_isSentence [.ref 3, .int p] (zz_SH, I, J) (zz_tf (zz_ix p N) (zz_SH, I, J)) := by
  refine EvM.of (by decide) rfl (Nat.le_of_ble_eq_true rfl) ?_
  show Ev _ _ _ _ _ 0 [some (.ref 3), some (.int p)] [] (zz_SH, I, J) _
  refine Ev.run [(.iload_n 1, 1)] (pc' := 1) (L' := [some (.ref 3), some (.int p)]) (S' := [.int p]) rfl (by decide +kernel) rfl ?_
  refine Ev.if_lt (off := 21) (tgt := 22) (by decide +kernel) (by decide) (fun h1 => ?_) (fun h1 => ?_)
  · refine Ev.run [(.iconst 0, 1)] (pc' := 23) (L' := [some (.ref 3), some (.int p)]) (S' := [.int (nI 0)]) rfl (by decide +kernel) rfl ?_
    exact Ev.zret rfl (by decide +kernel) (Or.inl rfl) (⟨rfl, Or.inr ⟨rfl, fun q => ((zz_cix (by omega)).mp q).1 h1⟩⟩)
  · refine Ev.run [(.iload_n 1, 1), (.aload_n 0, 1), (.getfield 55, 3)] (pc' := 9) (L' := [some (.ref 3), some (.int p)]) (S' := [.int (I 3 11), .int p]) rfl (by decide +kernel) rfl ?_
    rw [hN]
    refine Ev.icmp_ge (off := 13) (tgt := 22) (by decide +kernel) (by decide) (fun h9 => ?_) (fun h9 => ?_)
    · refine Ev.run [(.iconst 0, 1)] (pc' := 23) (L' := [some (.ref 3), some (.int p)]) (S' := [.int (nI 0)]) rfl (by decide +kernel) rfl ?_
      exact Ev.zret rfl (by decide +kernel) (Or.inl rfl) (⟨rfl, Or.inr ⟨rfl, fun q => ((zz_cix (by omega)).mp q).2 h9⟩⟩)
    · refine Ev.run [(.iload_n 1, 1), (.bipush 10, 2)] (pc' := 15) (L' := [some (.ref 3), some (.int p)]) (S' := [.int (nI 10), .int p]) rfl (by decide +kernel) rfl ?_
      refine Ev.icmp_ge (off := 7) (tgt := 22) (by decide +kernel) (by decide) (fun h15 => ?_) (fun h15 => ?_)
      · refine Ev.run [(.iconst 0, 1)] (pc' := 23) (L' := [some (.ref 3), some (.int p)]) (S' := [.int (nI 0)]) rfl (by decide +kernel) rfl ?_
        exact Ev.zret rfl (by decide +kernel) (Or.inl rfl) (⟨rfl, Or.inr ⟨rfl, fun q => zz_ix_ge q hN2 (by decide) h15⟩⟩)
      · refine Ev.run [(.iconst 1, 1)] (pc' := 19) (L' := [some (.ref 3), some (.int p)]) (S' := [.int (nI 1)]) rfl (by decide +kernel) rfl ?_
        refine Ev.goto (off := 4) (tgt := 23) (by decide +kernel) (by decide) ?_
        exact Ev.zret rfl (by decide +kernel) (Or.inr rfl) (⟨rfl, Or.inl ⟨rfl, (zz_cix (by omega)).mpr ⟨h1, h9⟩⟩⟩)

set_option maxRecDepth 100000 in
set_option maxHeartbeats 4000000 in
theorem c_X6_isNumber {sc : Nat × (Nat → Int32)} {d : Nat} (I : Nat → Nat → Int32) (J : Nat → Nat → Int64) (v : Int32) : EvM sc (d) 0 0 mX6_isNumber [.int v] (zz_SH, I, J) (zz_tf (nI 48 ≤ v ∧ v ≤ nI 57) (zz_SH, I, J)) := by
  refine EvM.of (by decide) rfl (Nat.le_of_ble_eq_true rfl) ?_
  show Ev _ _ _ _ _ 0 [some (.int v)] [] (zz_SH, I, J) _
  refine Ev.run [(.iload_n 0, 1), (.bipush 48, 2)] (pc' := 3) (L' := [some (.int v)]) (S' := [.int (nI 48), .int v]) rfl (by decide +kernel) rfl ?_
  refine Ev.icmp_lt (off := 13) (tgt := 16) (by decide +kernel) (by decide) (fun h3 => ?_) (fun h3 => ?_)
  · refine Ev.run [(.iconst 0, 1)] (pc' := 17) (L' := [some (.int v)]) (S' := [.int (nI 0)]) rfl (by decide +kernel) rfl ?_
    exact Ev.zret rfl (by decide +kernel) (Or.inl rfl) (⟨rfl, Or.inr ⟨rfl, fun hh => absurd h3 (Int32.not_lt.mpr hh.1)⟩⟩)
  · refine Ev.run [(.iload_n 0, 1), (.bipush 57, 2)] (pc' := 9) (L' := [some (.int v)]) (S' := [.int (nI 57), .int v]) rfl (by decide +kernel) rfl ?_
    refine Ev.icmp_gt (off := 7) (tgt := 16) (by decide +kernel) (by decide) (fun h9 => ?_) (fun h9 => ?_)
    · refine Ev.run [(.iconst 0, 1)] (pc' := 17) (L' := [some (.int v)]) (S' := [.int (nI 0)]) rfl (by decide +kernel) rfl ?_
      exact Ev.zret rfl (by decide +kernel) (Or.inl rfl) (⟨rfl, Or.inr ⟨rfl, fun hh => absurd h9 (Int32.not_lt.mpr hh.2)⟩⟩)
    · refine Ev.run [(.iconst 1, 1)] (pc' := 13) (L' := [some (.int v)]) (S' := [.int (nI 1)]) rfl (by decide +kernel) rfl ?_
      refine Ev.goto (off := 4) (tgt := 17) (by decide +kernel) (by decide) ?_
      exact Ev.zret rfl (by decide +kernel) (Or.inr rfl) (⟨rfl, Or.inl ⟨rfl, Int32.not_lt.mp h3, Int32.not_lt.mp h9⟩⟩)

set_option maxRecDepth 100000 in
set_option maxHeartbeats 4000000 in
theorem c_X6_isWord {sc : Nat × (Nat → Int32)} {d : Nat} (I : Nat → Nat → Int32) (J : Nat → Nat → Int64) (p : Int32) : EvM sc (d) 0 0 mX6_isWord [.int p] (zz_SH, I, J) (zz_tf (zz_ix p 16) (zz_SH, I, J)) := by
  refine EvM.of (by decide) rfl (Nat.le_of_ble_eq_true rfl) ?_
  show Ev _ _ _ _ _ 0 [some (.int p)] [] (zz_SH, I, J) _
  refine Ev.run [(.iload_n 0, 1)] (pc' := 1) (L' := [some (.int p)]) (S' := [.int p]) rfl (by decide +kernel) rfl ?_
  refine Ev.if_lt (off := 13) (tgt := 14) (by decide +kernel) (by decide) (fun h1 => ?_) (fun h1 => ?_)
  · refine Ev.run [(.iconst 0, 1)] (pc' := 15) (L' := [some (.int p)]) (S' := [.int (nI 0)]) rfl (by decide +kernel) rfl ?_
    exact Ev.zret rfl (by decide +kernel) (Or.inl rfl) (⟨rfl, Or.inr ⟨rfl, fun q => ((zz_cix (by decide)).mp q).1 h1⟩⟩)
  · refine Ev.run [(.iload_n 0, 1), (.bipush 16, 2)] (pc' := 7) (L' := [some (.int p)]) (S' := [.int (nI 16), .int p]) rfl (by decide +kernel) rfl ?_
    refine Ev.icmp_ge (off := 7) (tgt := 14) (by decide +kernel) (by decide) (fun h7 => ?_) (fun h7 => ?_)
    · refine Ev.run [(.iconst 0, 1)] (pc' := 15) (L' := [some (.int p)]) (S' := [.int (nI 0)]) rfl (by decide +kernel) rfl ?_
      exact Ev.zret rfl (by decide +kernel) (Or.inl rfl) (⟨rfl, Or.inr ⟨rfl, fun q => ((zz_cix (by decide)).mp q).2 h7⟩⟩)
    · refine Ev.run [(.iconst 1, 1)] (pc' := 11) (L' := [some (.int p)]) (S' := [.int (nI 1)]) rfl (by decide +kernel) rfl ?_
      refine Ev.goto (off := 4) (tgt := 15) (by decide +kernel) (by decide) ?_
      exact Ev.zret rfl (by decide +kernel) (Or.inr rfl) (⟨rfl, Or.inl ⟨rfl, (zz_cix (by decide)).mpr ⟨h1, h7⟩⟩⟩)

set_option maxRecDepth 100000 in
set_option maxHeartbeats 4000000 in
theorem c_X1_costOfChange {sc : Nat × (Nat → Int32)} {d : Nat} (I : Nat → Nat → Int32) (J : Nat → Nat → Int64) (x y : Nat) (hx : x < 1000) (hy : y < 1000) : EvM sc (d + 1) 0 0 mX1_costOfChange [.int (nI x), .int (nI y)] (zz_SH, I, J) (zz_is (.int (nI (chg x y))) (zz_SH, I, J)) := by
  refine EvM.of (by decide) rfl (Nat.le_of_ble_eq_true rfl) ?_
  show Ev _ _ _ _ _ 0 [some (.int (nI x)), some (.int (nI y))] [] (zz_SH, I, J) _
  refine Ev.run [(.iload_n 0, 1), (.iload_n 1, 1)] (pc' := 2) (L' := [some (.int (nI x)), some (.int (nI y))]) (S' := [.int (nI y), .int (nI x)]) rfl (by decide +kernel) rfl ?_
  refine Ev.icmp_ne (off := 5) (tgt := 7) (by decide +kernel) (by decide) (fun h2 => ?_) (fun h2 => ?_)
  · have h2 : ¬ x = y := zz_bE_f (by omega) (by omega) h2
    refine Ev.run [(.iload_n 0, 1)] (pc' := 8) (L' := [some (.int (nI x)), some (.int (nI y))]) (S' := [.int (nI x)]) rfl (by decide +kernel) rfl ?_
    refine Ev.callSN0 (n := 1) (idx := 34) (host := "SaidAlready") mX6_isNumber [.int (nI x)] [] _ rfl (by decide) (by decide +kernel) (by decide +kernel) (by decide +kernel) (by decide) (by decide +kernel) (by decide +kernel) rfl (Nat.le_of_ble_eq_true rfl) (c_X6_isNumber I J (nI x)) ?_
    rintro _ _ ⟨rfl, ⟨rfl, h8⟩ | ⟨rfl, h8⟩⟩
    · show Ev _ _ _ _ _ 11 [some (.int (nI x)), some (.int (nI y))] [.int (nI 1)] (zz_SH, I, J) _
      rw [zz_num hx] at h8
      refine Ev.if_eq (off := 14) (tgt := 25) (by decide +kernel) (by decide) (fun h11 => absurd h11 (by decide)) (fun h11 => ?_)
      refine Ev.run [(.iload_n 1, 1)] (pc' := 15) (L' := [some (.int (nI x)), some (.int (nI y))]) (S' := [.int (nI y)]) rfl (by decide +kernel) rfl ?_
      refine Ev.callSN0 (n := 1) (idx := 34) (host := "SaidAlready") mX6_isNumber [.int (nI y)] [] _ rfl (by decide) (by decide +kernel) (by decide +kernel) (by decide +kernel) (by decide) (by decide +kernel) (by decide +kernel) rfl (Nat.le_of_ble_eq_true rfl) (c_X6_isNumber I J (nI y)) ?_
      rintro _ _ ⟨rfl, ⟨rfl, h15⟩ | ⟨rfl, h15⟩⟩
      · show Ev _ _ _ _ _ 18 [some (.int (nI x)), some (.int (nI y))] [.int (nI 1)] (zz_SH, I, J) _
        rw [zz_num hy] at h15
        refine Ev.if_eq (off := 7) (tgt := 25) (by decide +kernel) (by decide) (fun h18 => absurd h18 (by decide)) (fun h18 => ?_)
        refine Ev.run [(.iconst 1, 1)] (pc' := 22) (L' := [some (.int (nI x)), some (.int (nI y))]) (S' := [.int (nI 1)]) rfl (by decide +kernel) rfl ?_
        refine Ev.goto (off := 4) (tgt := 26) (by decide +kernel) (by decide) ?_
        exact Ev.iret rfl (by decide +kernel) (⟨by rw [chg, if_neg h2, if_pos ⟨h8.1, h8.2, h15⟩], rfl⟩)
      · show Ev _ _ _ _ _ 18 [some (.int (nI x)), some (.int (nI y))] [.int (nI 0)] (zz_SH, I, J) _
        rw [zz_num hy] at h15
        refine Ev.if_eq (off := 7) (tgt := 25) (by decide +kernel) (by decide) (fun h18 => ?_) (fun h18 => absurd h18 (by decide))
        refine Ev.run [(.iconst 4, 1)] (pc' := 26) (L' := [some (.int (nI x)), some (.int (nI y))]) (S' := [.int (nI 4)]) rfl (by decide +kernel) rfl ?_
        exact Ev.iret rfl (by decide +kernel) (⟨by rw [chg, if_neg h2, if_neg (fun q => h15 q.2.2)], rfl⟩)
    · show Ev _ _ _ _ _ 11 [some (.int (nI x)), some (.int (nI y))] [.int (nI 0)] (zz_SH, I, J) _
      rw [zz_num hx] at h8
      refine Ev.if_eq (off := 14) (tgt := 25) (by decide +kernel) (by decide) (fun h11 => ?_) (fun h11 => absurd h11 (by decide))
      refine Ev.run [(.iconst 4, 1)] (pc' := 26) (L' := [some (.int (nI x)), some (.int (nI y))]) (S' := [.int (nI 4)]) rfl (by decide +kernel) rfl ?_
      exact Ev.iret rfl (by decide +kernel) (⟨by rw [chg, if_neg h2, if_neg (fun q => h8 ⟨q.1, q.2.1⟩)], rfl⟩)
  · have h2 : x = y := zz_bE_t (by omega) (by omega) h2
    refine Ev.run [(.iconst 0, 1)] (pc' := 6) (L' := [some (.int (nI x)), some (.int (nI y))]) (S' := [.int (nI 0)]) rfl (by decide +kernel) rfl ?_
    exact Ev.iret rfl (by decide +kernel) (⟨by rw [chg, if_pos h2], rfl⟩)

set_option maxRecDepth 100000 in
set_option maxHeartbeats 4000000 in
theorem l_X1_far3 {sc : Nat × (Nat → Int32)} {d : Nat} (I : Nat → Nat → Int32) (J : Nat → Nat → Int64) (k q n m : Nat) (f g : Nat → Nat) (hk : zz_row k 12) (hq : zz_row q 12) (hf : zz_rf I k n f) (hg : zz_rf I q m g) (hn : n ≤ 12) (hm : m ≤ 12) (hfr : ∀ i, i < n → f i < 1000) (hgr : ∀ j, j < m → g j < 1000) (hkl : k < 300) (hql : q < 300) (i : Nat) (hi : i < n) (hout : ∀ h : Nat → Int32, (∀ t, t ≤ m → h t = nI (DD f g (i + 1) t)) → Ev sc (d + 2) 0 0 mX1_farOf 150 [some (.ref 308), some (.ref k), some (.ref q), some (.int (nI m)), some (.int (nI i)), none, none, none, none, none] [] (zz_SH, zz_cs I 309 h, J) (fun r σ => r = some (.int (nI (DD f g n m))) ∧ ∃ h, σ = (zz_SH, zz_cs I 309 h, J))) : ∀ (μ : Nat) (j : Nat) (h : Nat → Int32), m - j < μ → (j ≤ m) → (∀ t, t ≤ j → h t = nI (DD f g (i + 1) t)) → (∀ t, j < t → t ≤ m → h t = nI (DD f g i t)) →  Ev sc (d + 2) 0 0 mX1_farOf 71 [some (.ref 308), some (.ref k), some (.ref q), some (.int (nI m)), some (.int (nI i)), some (.int (nI (DD f g i j))), some (.int (nI (j + 1))), none, none, none] [] (zz_SH, zz_cs I 309 h, J) (fun r σ => r = some (.int (nI (DD f g n m))) ∧ ∃ h, σ = (zz_SH, zz_cs I 309 h, J)) := by
  intro μ
  induction μ with
  | zero => intro j h hμ; exact absurd hμ (Nat.not_lt_zero _)
  | succ μ ih =>
    intro j h hμ hj h1 h2
    have hf1 : zz_rf (zz_cs I 309 h) k n f := hf.fr (zz_cs_ne (by omega)) (zz_cs_ne (by omega))
    have hg1 : zz_rf (zz_cs I 309 h) q m g := hg.fr (zz_cs_ne (by omega)) (zz_cs_ne (by omega))
    have b1 := DD_le f g i j
    have b2 := DD_le f g i (j + 1)
    have b3 := DD_le f g (i + 1) j
    have b4 := chg_le (f i) (g j)
    refine Ev.run [(.iload 6, 2), (.iload_n 3, 1)] (pc' := 74) (L' := [some (.ref 308), some (.ref k), some (.ref q), some (.int (nI m)), some (.int (nI i)), some (.int (nI (DD f g i j))), some (.int (nI (j + 1))), none, none, none]) (S' := [.int (nI m), .int (nI (j + 1))]) rfl (by decide +kernel) rfl ?_
    refine Ev.icmp_gt (off := 76) (tgt := 150) (by decide +kernel) (by decide) (fun h74 => ?_) (fun h74 => ?_)
    · have h74 : (j + 1) > m := zz_bL'_t (by omega) (by omega) h74
      refine Ev.weakL (L' := [some (.ref 308), some (.ref k), some (.ref q), some (.int (nI m)), some (.int (nI i)), none, none, none, none, none]) ⟨rfl, rfl, rfl, rfl, rfl, trivial⟩ ?_
      exact hout h (fun t ht => h1 t (by omega))
    · have h74 : (j + 1) ≤ m := zz_bL'_f (by omega) (by omega) h74
      refine Ev.run [(.aload_n 0, 1), (.getfield 9, 3), (.iload 6, 2)] (pc' := 83) (L' := [some (.ref 308), some (.ref k), some (.ref q), some (.int (nI m)), some (.int (nI i)), some (.int (nI (DD f g i j))), some (.int (nI (j + 1))), none, none, none]) (S' := [.int (nI (j + 1)), .ref 309]) rfl (by decide +kernel) rfl ?_
      refine Ev.iald (j + 1) (by decide +kernel) (rfl) (rfl) (by omega) (by first | decide | omega) ?_
      dsimp only
      rw [show (zz_cs I 309 h) 309 (j + 1) = nI (DD f g i (j + 1)) from by rw [zz_cs_eq]; exact h2 (j + 1) (by omega) (by omega)]
      refine Ev.run [(.istore 7, 2), (.iload 5, 2), (.aload_n 1, 1), (.iload 4, 2)] (pc' := 91) (L' := [some (.ref 308), some (.ref k), some (.ref q), some (.int (nI m)), some (.int (nI i)), some (.int (nI (DD f g i j))), some (.int (nI (j + 1))), some (.int (nI (DD f g i (j + 1)))), none, none]) (S' := [.int (nI i), .ref k, .int (nI (DD f g i j))]) rfl (by decide +kernel) rfl ?_
      refine Ev.callV0 mX4_at [.int (nI i)] [.int (nI (DD f g i j))] _ rfl lk_RX1_27 (by decide +kernel) (hk.1) rfl rfl rfl (Nat.le_of_ble_eq_true rfl) (c_X4_at (zz_cs I 309 h) J k 12 (nI i) hk) ?_
      rintro _ _ ⟨rfl, rfl⟩
      rw [hf1.at hn (by decide) (by omega)]
      show Ev _ _ _ _ _ 94 [some (.ref 308), some (.ref k), some (.ref q), some (.int (nI m)), some (.int (nI i)), some (.int (nI (DD f g i j))), some (.int (nI (j + 1))), some (.int (nI (DD f g i (j + 1)))), none, none] [.int (nI (f i)), .int (nI (DD f g i j))] (zz_SH, zz_cs I 309 h, J) _
      refine Ev.run [(.aload_n 2, 1), (.iload 6, 2), (.iconst 1, 1), (.isub, 1)] (pc' := 99) (L' := [some (.ref 308), some (.ref k), some (.ref q), some (.int (nI m)), some (.int (nI i)), some (.int (nI (DD f g i j))), some (.int (nI (j + 1))), some (.int (nI (DD f g i (j + 1)))), none, none]) (S' := [.int (nI (j + 1) - nI 1), .ref q, .int (nI (f i)), .int (nI (DD f g i j))]) rfl (by decide +kernel) rfl ?_
      rw [show nI (j + 1) - nI 1 = nI j from zz_sub (by omega)]
      refine Ev.callV0 mX4_at [.int (nI j)] [.int (nI (f i)), .int (nI (DD f g i j))] _ rfl lk_RX1_27 (by decide +kernel) (hq.1) rfl rfl rfl (Nat.le_of_ble_eq_true rfl) (c_X4_at (zz_cs I 309 h) J q 12 (nI j) hq) ?_
      rintro _ _ ⟨rfl, rfl⟩
      rw [hg1.at hm (by decide) (by omega)]
      show Ev _ _ _ _ _ 102 [some (.ref 308), some (.ref k), some (.ref q), some (.int (nI m)), some (.int (nI i)), some (.int (nI (DD f g i j))), some (.int (nI (j + 1))), some (.int (nI (DD f g i (j + 1)))), none, none] [.int (nI (g j)), .int (nI (f i)), .int (nI (DD f g i j))] (zz_SH, zz_cs I 309 h, J) _
      refine Ev.callS0 mX1_costOfChange [.int (nI (f i)), .int (nI (g j))] [.int (nI (DD f g i j))] _ rfl lk_RX1_31 (by decide +kernel) rfl (Nat.le_of_ble_eq_true rfl) (c_X1_costOfChange (zz_cs I 309 h) J (f i) (g j) (hfr i (by omega)) (hgr j (by omega))) ?_
      rintro _ _ ⟨rfl, rfl⟩
      show Ev _ _ _ _ _ 105 [some (.ref 308), some (.ref k), some (.ref q), some (.int (nI m)), some (.int (nI i)), some (.int (nI (DD f g i j))), some (.int (nI (j + 1))), some (.int (nI (DD f g i (j + 1)))), none, none] [.int (nI (chg (f i) (g j))), .int (nI (DD f g i j))] (zz_SH, zz_cs I 309 h, J) _
      refine Ev.run [(.iadd, 1)] (pc' := 106) (L' := [some (.ref 308), some (.ref k), some (.ref q), some (.int (nI m)), some (.int (nI i)), some (.int (nI (DD f g i j))), some (.int (nI (j + 1))), some (.int (nI (DD f g i (j + 1)))), none, none]) (S' := [.int (nI (DD f g i j) + nI (chg (f i) (g j)))]) rfl (by decide +kernel) rfl ?_
      rw [nI_add (DD f g i j) (chg (f i) (g j))]
      refine Ev.run [(.istore 8, 2), (.iload 7, 2), (.aload_n 0, 1), (.getfield 9, 3), (.iload 6, 2), (.iconst 1, 1), (.isub, 1)] (pc' := 118) (L' := [some (.ref 308), some (.ref k), some (.ref q), some (.int (nI m)), some (.int (nI i)), some (.int (nI (DD f g i j))), some (.int (nI (j + 1))), some (.int (nI (DD f g i (j + 1)))), some (.int (nI ((DD f g i j) + (chg (f i) (g j))))), none]) (S' := [.int (nI (j + 1) - nI 1), .ref 309, .int (nI (DD f g i (j + 1)))]) rfl (by decide +kernel) rfl ?_
      rw [show nI (j + 1) - nI 1 = nI j from zz_sub (by omega)]
      refine Ev.iald j (by decide +kernel) (rfl) (rfl) (by omega) (by first | decide | omega) ?_
      dsimp only
      rw [show (zz_cs I 309 h) 309 j = nI (DD f g (i + 1) j) from by rw [zz_cs_eq]; exact h1 j (by omega)]
      refine Ev.mmin (idx := 21) (by decide +kernel) (Nat.le_of_ble_eq_true rfl) (by decide +kernel) ?_
      rw [zz_min (a := DD f g i (j + 1)) (b := DD f g (i + 1) j) (by omega) (by omega)]
      refine Ev.run [(.iconst 4, 1), (.iadd, 1)] (pc' := 124) (L' := [some (.ref 308), some (.ref k), some (.ref q), some (.int (nI m)), some (.int (nI i)), some (.int (nI (DD f g i j))), some (.int (nI (j + 1))), some (.int (nI (DD f g i (j + 1)))), some (.int (nI ((DD f g i j) + (chg (f i) (g j))))), none]) (S' := [.int (nI (min (DD f g i (j + 1)) (DD f g (i + 1) j)) + nI 4)]) rfl (by decide +kernel) rfl ?_
      rw [nI_add (min (DD f g i (j + 1)) (DD f g (i + 1) j)) 4]
      refine Ev.run [(.istore 9, 2), (.aload_n 0, 1), (.getfield 9, 3), (.iload 6, 2), (.iload 8, 2), (.iload 9, 2)] (pc' := 136) (L' := [some (.ref 308), some (.ref k), some (.ref q), some (.int (nI m)), some (.int (nI i)), some (.int (nI (DD f g i j))), some (.int (nI (j + 1))), some (.int (nI (DD f g i (j + 1)))), some (.int (nI ((DD f g i j) + (chg (f i) (g j))))), some (.int (nI ((min (DD f g i (j + 1)) (DD f g (i + 1) j)) + 4)))]) (S' := [.int (nI ((min (DD f g i (j + 1)) (DD f g (i + 1) j)) + 4)), .int (nI ((DD f g i j) + (chg (f i) (g j)))), .int (nI (j + 1)), .ref 309]) rfl (by decide +kernel) rfl ?_
      refine Ev.mmin (idx := 21) (by decide +kernel) (Nat.le_of_ble_eq_true rfl) (by decide +kernel) ?_
      rw [zz_min (by omega) (by omega), show min (DD f g i j + chg (f i) (g j)) (min (DD f g i (j + 1)) (DD f g (i + 1) j) + 4) = DD f g (i + 1) (j + 1) from by rw [DD]; omega]
      refine Ev.iast (j + 1) (by decide +kernel) (rfl) (rfl) (by omega) (by first | decide | omega) ?_
      dsimp only
      refine Ev.run [(.iload 7, 2), (.istore 5, 2), (.iinc 6 1, 3)] (pc' := 147) (L' := [some (.ref 308), some (.ref k), some (.ref q), some (.int (nI m)), some (.int (nI i)), some (.int (nI (DD f g i (j + 1)))), some (.int (nI (j + 1) + 1)), some (.int (nI (DD f g i (j + 1)))), some (.int (nI ((DD f g i j) + (chg (f i) (g j))))), some (.int (nI ((min (DD f g i (j + 1)) (DD f g (i + 1) j)) + 4)))]) (S' := []) rfl (by decide +kernel) rfl ?_
      rw [nI_1 (j + 1)]
      refine Ev.goto (off := (-76)) (tgt := 71) (by decide +kernel) (by decide) ?_
      refine Ev.weakL (L' := [some (.ref 308), some (.ref k), some (.ref q), some (.int (nI m)), some (.int (nI i)), some (.int (nI (DD f g i (j + 1)))), some (.int (nI (j + 1 + 1))), none, none, none]) ⟨rfl, rfl, rfl, rfl, rfl, rfl, rfl, trivial⟩ ?_
      rw [zz_cs_up]
      refine ih (j + 1) (upd h (j + 1) (nI (DD f g (i + 1) (j + 1)))) (by omega) (by omega) (fun t ht => ?_) (fun t ht1 ht2 => ?_)
      · by_cases e : t = j + 1
        · subst e; rw [zz_ups]
        · rw [zz_upn e]; exact h1 t (by omega)
      · rw [zz_upn (by omega)]; exact h2 t (by omega) ht2

set_option maxRecDepth 100000 in
set_option maxHeartbeats 4000000 in
theorem l_X1_far2 {sc : Nat × (Nat → Int32)} {d : Nat} (I : Nat → Nat → Int32) (J : Nat → Nat → Int64) (k q n m : Nat) (f g : Nat → Nat) (hk : zz_row k 12) (hq : zz_row q 12) (hf : zz_rf I k n f) (hg : zz_rf I q m g) (hn : n ≤ 12) (hm : m ≤ 12) (hfr : ∀ i, i < n → f i < 1000) (hgr : ∀ j, j < m → g j < 1000) (hkl : k < 300) (hql : q < 300) : ∀ (μ : Nat) (i : Nat) (h : Nat → Int32), n - i < μ → (i ≤ n) → (∀ t, t ≤ m → h t = nI (DD f g i t)) →  Ev sc (d + 2) 0 0 mX1_farOf 39 [some (.ref 308), some (.ref k), some (.ref q), some (.int (nI m)), some (.int (nI i)), none, none, none, none, none] [] (zz_SH, zz_cs I 309 h, J) (fun r σ => r = some (.int (nI (DD f g n m))) ∧ ∃ h, σ = (zz_SH, zz_cs I 309 h, J)) := by
  intro μ
  induction μ with
  | zero => intro i h hμ; exact absurd hμ (Nat.not_lt_zero _)
  | succ μ ih =>
    intro i h hμ hi h1
    have hf1 : zz_rf (zz_cs I 309 h) k n f := hf.fr (zz_cs_ne (by omega)) (zz_cs_ne (by omega))
    have hg1 : zz_rf (zz_cs I 309 h) q m g := hg.fr (zz_cs_ne (by omega)) (zz_cs_ne (by omega))
    refine Ev.run [(.iload 4, 2), (.aload_n 1, 1)] (pc' := 42) (L' := [some (.ref 308), some (.ref k), some (.ref q), some (.int (nI m)), some (.int (nI i)), none, none, none, none, none]) (S' := [.ref k, .int (nI i)]) rfl (by decide +kernel) rfl ?_
    refine Ev.getf (idx := 15) (x := none) (v := .int ((zz_cs I 309 h) k 1)) rfl rfl (by decide +kernel) (hk.1) rfl rfl ?_
    rw [hf1.1]
    refine Ev.icmp_ge (off := 111) (tgt := 156) (by decide +kernel) (by decide) (fun h45 => ?_) (fun h45 => ?_)
    · have h45 : i ≥ n := zz_bG_t (by omega) (by omega) h45
      have hin : n = i := by omega
      refine Ev.run [(.aload_n 0, 1), (.getfield 9, 3), (.iload_n 3, 1)] (pc' := 161) (L' := [some (.ref 308), some (.ref k), some (.ref q), some (.int (nI m)), some (.int (nI i)), none, none, none, none, none]) (S' := [.int (nI m), .ref 309]) rfl (by decide +kernel) rfl ?_
      refine Ev.iald m (by decide +kernel) (rfl) (rfl) (by omega) (by first | decide | omega) ?_
      dsimp only
      rw [show (zz_cs I 309 h) 309 m = nI (DD f g i m) from by rw [zz_cs_eq]; exact h1 m (Nat.le_refl m)]
      exact Ev.iret rfl (by decide +kernel) (⟨by rw [hin], h, rfl⟩)
    · have h45 : i < n := zz_bG_f (by omega) (by omega) h45
      refine Ev.run [(.aload_n 0, 1), (.getfield 9, 3), (.iconst 0, 1)] (pc' := 53) (L' := [some (.ref 308), some (.ref k), some (.ref q), some (.int (nI m)), some (.int (nI i)), none, none, none, none, none]) (S' := [.int (nI 0), .ref 309]) rfl (by decide +kernel) rfl ?_
      refine Ev.iald 0 (by decide +kernel) (rfl) (rfl) (by omega) (by first | decide | omega) ?_
      dsimp only
      rw [show (zz_cs I 309 h) 309 0 = nI (DD f g i 0) from by rw [zz_cs_eq]; exact h1 0 (by omega)]
      refine Ev.run [(.istore 5, 2), (.aload_n 0, 1), (.getfield 9, 3), (.iconst 0, 1), (.iconst 4, 1), (.iload 4, 2), (.iconst 1, 1), (.iadd, 1)] (pc' := 66) (L' := [some (.ref 308), some (.ref k), some (.ref q), some (.int (nI m)), some (.int (nI i)), some (.int (nI (DD f g i 0))), none, none, none, none]) (S' := [.int (nI i + nI 1), .int (nI 4), .int (nI 0), .ref 309]) rfl (by decide +kernel) rfl ?_
      rw [nI_add i 1]
      refine Ev.run [(.imul, 1)] (pc' := 67) (L' := [some (.ref 308), some (.ref k), some (.ref q), some (.int (nI m)), some (.int (nI i)), some (.int (nI (DD f g i 0))), none, none, none, none]) (S' := [.int (nI 4 * nI (i + 1)), .int (nI 0), .ref 309]) rfl (by decide +kernel) rfl ?_
      rw [pk_mul 4 (i + 1)]
      refine Ev.iast 0 (by decide +kernel) (rfl) (rfl) (by omega) (by first | decide | omega) ?_
      dsimp only
      refine Ev.run [(.iconst 1, 1), (.istore 6, 2)] (pc' := 71) (L' := [some (.ref 308), some (.ref k), some (.ref q), some (.int (nI m)), some (.int (nI i)), some (.int (nI (DD f g i 0))), some (.int (nI 1)), none, none, none]) (S' := []) rfl (by decide +kernel) rfl ?_
      rw [zz_cs_up]
      refine l_X1_far3 I J k q n m f g hk hq hf hg hn hm hfr hgr hkl hql i (by omega) ?_ (m + 1) 0 _ (by omega) (by omega) (fun t ht => ?_) (fun t ht1 ht2 => ?_)
      rotate_left
      · rw [show t = 0 by omega, zz_ups, DD_z]
      · rw [zz_upn (by omega)]; exact h1 t ht2
      intro h hh
      show Ev _ _ _ _ _ 150 [some (.ref 308), some (.ref k), some (.ref q), some (.int (nI m)), some (.int (nI i)), none, none, none, none, none] [] (zz_SH, zz_cs I 309 h, J) _
      refine Ev.run [(.iinc 4 1, 3)] (pc' := 153) (L' := [some (.ref 308), some (.ref k), some (.ref q), some (.int (nI m)), some (.int (nI i + 1)), none, none, none, none, none]) (S' := []) rfl (by decide +kernel) rfl ?_
      rw [nI_1 i]
      refine Ev.goto (off := (-114)) (tgt := 39) (by decide +kernel) (by decide) ?_
      exact ih (i + 1) h (by omega) (by omega) hh

set_option maxRecDepth 100000 in
set_option maxHeartbeats 4000000 in
theorem l_X1_far1 {sc : Nat × (Nat → Int32)} {d : Nat} (I : Nat → Nat → Int32) (J : Nat → Nat → Int64) (k q n m : Nat) (f g : Nat → Nat) (hk : zz_row k 12) (hq : zz_row q 12) (hf : zz_rf I k n f) (hg : zz_rf I q m g) (hn : n ≤ 12) (hm : m ≤ 12) (hfr : ∀ i, i < n → f i < 1000) (hgr : ∀ j, j < m → g j < 1000) (hkl : k < 300) (hql : q < 300) : ∀ (μ : Nat) (j : Nat) (h : Nat → Int32), m + 1 - j < μ → (j ≤ m + 1) → (∀ t, t < j → h t = nI (4 * t)) →  Ev sc (d + 2) 0 0 mX1_farOf 13 [some (.ref 308), some (.ref k), some (.ref q), some (.int (nI m)), some (.int (nI j)), none, none, none, none, none] [] (zz_SH, zz_cs I 309 h, J) (fun r σ => r = some (.int (nI (DD f g n m))) ∧ ∃ h, σ = (zz_SH, zz_cs I 309 h, J)) := by
  intro μ
  induction μ with
  | zero => intro j h hμ; exact absurd hμ (Nat.not_lt_zero _)
  | succ μ ih =>
    intro j h hμ hj h1
    refine Ev.run [(.iload 4, 2), (.iload_n 3, 1)] (pc' := 16) (L' := [some (.ref 308), some (.ref k), some (.ref q), some (.int (nI m)), some (.int (nI j)), none, none, none, none, none]) (S' := [.int (nI m), .int (nI j)]) rfl (by decide +kernel) rfl ?_
    refine Ev.icmp_gt (off := 20) (tgt := 36) (by decide +kernel) (by decide) (fun h16 => ?_) (fun h16 => ?_)
    · have h16 : j > m := zz_bL'_t (by omega) (by omega) h16
      refine Ev.run [(.iconst 0, 1), (.istore 4, 2)] (pc' := 39) (L' := [some (.ref 308), some (.ref k), some (.ref q), some (.int (nI m)), some (.int (nI 0)), none, none, none, none, none]) (S' := []) rfl (by decide +kernel) rfl ?_
      exact l_X1_far2 I J k q n m f g hk hq hf hg hn hm hfr hgr hkl hql (n + 1) 0 h (by omega) (by omega) (fun t ht => by rw [DD_0]; exact h1 t (by omega))
    · have h16 : j ≤ m := zz_bL'_f (by omega) (by omega) h16
      refine Ev.run [(.aload_n 0, 1), (.getfield 9, 3), (.iload 4, 2), (.iconst 4, 1), (.iload 4, 2), (.imul, 1)] (pc' := 29) (L' := [some (.ref 308), some (.ref k), some (.ref q), some (.int (nI m)), some (.int (nI j)), none, none, none, none, none]) (S' := [.int (nI 4 * nI j), .int (nI j), .ref 309]) rfl (by decide +kernel) rfl ?_
      rw [pk_mul 4 j]
      refine Ev.iast j (by decide +kernel) (rfl) (rfl) (by omega) (by first | decide | omega) ?_
      dsimp only
      refine Ev.run [(.iinc 4 1, 3)] (pc' := 33) (L' := [some (.ref 308), some (.ref k), some (.ref q), some (.int (nI m)), some (.int (nI j + 1)), none, none, none, none, none]) (S' := []) rfl (by decide +kernel) rfl ?_
      rw [nI_1 j]
      refine Ev.goto (off := (-20)) (tgt := 13) (by decide +kernel) (by decide) ?_
      rw [zz_cs_up]
      refine ih (j + 1) _ (by omega) (by omega) (fun t ht => ?_)
      by_cases e : t = j
      · subst e; rw [zz_ups]
      · rw [zz_upn e]; exact h1 t (by omega)

set_option maxRecDepth 100000 in
set_option maxHeartbeats 4000000 in
theorem c_X1_farOf {sc : Nat × (Nat → Int32)} {d : Nat} (I : Nat → Nat → Int32) (J : Nat → Nat → Int64) (k q n m : Nat) (f g : Nat → Nat) (hk : zz_row k 12) (hq : zz_row q 12) (hf : zz_rf I k n f) (hg : zz_rf I q m g) (hn : n ≤ 12) (hm : m ≤ 12) (hfr : ∀ i, i < n → f i < 1000) (hgr : ∀ j, j < m → g j < 1000) (hkl : k < 300) (hql : q < 300) : EvM sc (d + 2) 0 0 mX1_farOf [.ref 308, .ref k, .ref q] (zz_SH, I, J) (fun r σ => r = some (.int (nI (DD f g n m))) ∧ ∃ h, σ = (zz_SH, zz_cs I 309 h, J)) := by
  refine EvM.of (by decide) rfl (Nat.le_of_ble_eq_true rfl) ?_
  show Ev _ _ _ _ _ 0 [some (.ref 308), some (.ref k), some (.ref q), none, none, none, none, none, none, none] [] (zz_SH, I, J) _
  refine Ev.run [(.aload_n 2, 1)] (pc' := 1) (L' := [some (.ref 308), some (.ref k), some (.ref q), none, none, none, none, none, none, none]) (S' := [.ref q]) rfl (by decide +kernel) rfl ?_
  refine Ev.getf (idx := 15) (x := none) (v := .int (I q 1)) rfl rfl (by decide +kernel) (hq.1) rfl rfl ?_
  rw [hg.1]
  refine Ev.run [(.bipush 12, 2)] (pc' := 6) (L' := [some (.ref 308), some (.ref k), some (.ref q), none, none, none, none, none, none, none]) (S' := [.int (nI 12), .int (nI m)]) rfl (by decide +kernel) rfl ?_
  refine Ev.mmin (idx := 21) (by decide +kernel) (Nat.le_of_ble_eq_true rfl) (by decide +kernel) ?_
  rw [zz_min (by omega) (by omega), show min m 12 = m by omega]
  refine Ev.run [(.istore_n 3, 1), (.iconst 0, 1), (.istore 4, 2)] (pc' := 13) (L' := [some (.ref 308), some (.ref k), some (.ref q), some (.int (nI m)), some (.int (nI 0)), none, none, none, none, none]) (S' := []) rfl (by decide +kernel) rfl ?_
  have h0 := l_X1_far1 (sc := sc) (d := d) I J k q n m f g hk hq hf hg hn hm hfr hgr hkl hql (m + 2) 0 (I 309) (by omega) (by omega) (fun t ht => absurd ht (Nat.not_lt_zero t))
  rw [zz_cs_id] at h0
  exact h0

set_option maxRecDepth 100000 in
set_option maxHeartbeats 4000000 in
theorem c_X1_likeOf {sc : Nat × (Nat → Int32)} {d : Nat} (I : Nat → Nat → Int32) (J : Nat → Nat → Int64) (k q n m : Nat) (f g : Nat → Nat) (hk : zz_row k 12) (hq : zz_row q 12) (hf : zz_rf I k n f) (hg : zz_rf I q m g) (hn : n ≤ 12) (hm : m ≤ 12) (hfr : ∀ i, i < n → f i < 1000) (hgr : ∀ j, j < m → g j < 1000) (hkl : k < 300) (hql : q < 300) (h1 : 1 ≤ n) : EvM sc (d + 3) 0 0 mX1_likeOf [.ref 308, .ref k, .ref q] (zz_SH, I, J) (fun r σ => r = some (.int (nI (lik f n g m))) ∧ ∃ h, σ = (zz_SH, zz_cs I 309 h, J)) := by
  refine EvM.of (by decide) rfl (Nat.le_of_ble_eq_true rfl) ?_
  show Ev _ _ _ _ _ 0 [some (.ref 308), some (.ref k), some (.ref q), none] [] (zz_SH, I, J) _
  refine Ev.run [(.aload_n 1, 1)] (pc' := 1) (L' := [some (.ref 308), some (.ref k), some (.ref q), none]) (S' := [.ref k]) rfl (by decide +kernel) rfl ?_
  refine Ev.getf (idx := 15) (x := none) (v := .int (I k 1)) rfl rfl (by decide +kernel) (hk.1) rfl rfl ?_
  rw [hf.1]
  refine Ev.run [(.aload_n 2, 1)] (pc' := 5) (L' := [some (.ref 308), some (.ref k), some (.ref q), none]) (S' := [.ref q, .int (nI n)]) rfl (by decide +kernel) rfl ?_
  refine Ev.getf (idx := 15) (x := none) (v := .int (I q 1)) rfl rfl (by decide +kernel) (hq.1) rfl rfl ?_
  rw [hg.1]
  refine Ev.mmax (idx := 38) (by decide +kernel) (Nat.le_of_ble_eq_true rfl) (by decide +kernel) ?_
  rw [zz_max (by omega) (by omega)]
  refine Ev.run [(.istore_n 3, 1), (.iload_n 3, 1), (.iconst 1, 1)] (pc' := 14) (L' := [some (.ref 308), some (.ref k), some (.ref q), some (.int (nI (max n m)))]) (S' := [.int (nI 1), .int (nI (max n m))]) rfl (by decide +kernel) rfl ?_
  refine Ev.icmp_ge (off := 8) (tgt := 22) (by decide +kernel) (by decide) (fun h14 => ?_) (fun h14 => ?_)
  · have h14 : (max n m) ≥ 1 := zz_bG_t (by omega) (by omega) h14
    refine Ev.run [(.bipush 100, 2), (.bipush 25, 2), (.aload_n 0, 1), (.aload_n 1, 1), (.aload_n 2, 1)] (pc' := 29) (L' := [some (.ref 308), some (.ref k), some (.ref q), some (.int (nI (max n m)))]) (S' := [.ref q, .ref k, .ref 308, .int (nI 25), .int (nI 100)]) rfl (by decide +kernel) rfl ?_
    refine Ev.callV0 mX1_farOf [.ref k, .ref q] [.int (nI 25), .int (nI 100)] _ rfl lk_RX1_41 (by decide +kernel) (rfl) rfl rfl rfl (Nat.le_of_ble_eq_true rfl) (c_X1_farOf I J k q n m f g hk hq hf hg hn hm hfr hgr hkl hql) ?_
    rintro _ _ ⟨rfl, hh, rfl⟩
    have b1 := DD_le f g n m
    show Ev _ _ _ _ _ 32 [some (.ref 308), some (.ref k), some (.ref q), some (.int (nI (max n m)))] [.int (nI (DD f g n m)), .int (nI 25), .int (nI 100)] (zz_SH, zz_cs I 309 hh, J) _
    refine Ev.run [(.imul, 1)] (pc' := 33) (L' := [some (.ref 308), some (.ref k), some (.ref q), some (.int (nI (max n m)))]) (S' := [.int (nI 25 * nI (DD f g n m)), .int (nI 100)]) rfl (by decide +kernel) rfl ?_
    rw [pk_mul 25 (DD f g n m)]
    refine Ev.run [(.iload_n 3, 1)] (pc' := 34) (L' := [some (.ref 308), some (.ref k), some (.ref q), some (.int (nI (max n m)))]) (S' := [.int (nI (max n m)), .int (nI (25 * (DD f g n m))), .int (nI 100)]) rfl (by decide +kernel) rfl ?_
    refine Ev.idiv (by decide +kernel) (nI_ne0 (by omega) (by omega)) ?_
    rw [show nI (25 * DD f g n m) / nI (max n m) = nI (25 * DD f g n m / max n m) from pk_div (by omega) (by omega) (by omega)]
    refine Ev.run [(.isub, 1)] (pc' := 36) (L' := [some (.ref 308), some (.ref k), some (.ref q), some (.int (nI (max n m)))]) (S' := [.int (nI 100 - nI (25 * DD f g n m / max n m))]) rfl (by decide +kernel) rfl ?_
    rw [show nI 100 - nI (25 * DD f g n m / max n m) = nI (lik f n g m) from zz_sub (by rw [lik]; have := lik_q f (n := n) g (m := m) h1; omega)]
    exact Ev.iret rfl (by decide +kernel) (⟨rfl, hh, rfl⟩)
  · have h14 : (max n m) < 1 := zz_bG_f (by omega) (by omega) h14
    exfalso; omega
