/-! ===== the law: a call of each kind ===== -/
theorem zz_lgc (x : Int64) : lg_cmp x x = 0 := by
  simp [lg_cmp]
theorem zz_l4 {L i : Nat} (hL : L ≤ 2048) (hi : i ≤ 3000) (h : ¬ nI L - nI 4 < nI i) : i + 4 ≤ L := by
  rcases Nat.lt_or_ge L 4 with q | q
  · exfalso
    apply h
    have h1 : nI L - nI 4 < nI 0 := by
      rcases (show L = 0 ∨ L = 1 ∨ L = 2 ∨ L = 3 by omega) with rfl | rfl | rfl | rfl <;> decide
    exact Int32.lt_of_lt_of_le h1 ((nI_leI (by decide) (by omega)).mpr (Nat.zero_le i))
  · rw [zz_sub (c := L - 4) (by omega)] at h
    have h1 := zz_bL_f (by omega) (by omega) h
    omega

theorem zz_sw26 (x : Int32) : x = nI 0 ∨ x = nI 1 ∨ x = nI 2 ∨ x = nI 3 ∨ x = nI 4 ∨ x = nI 5 ∨ x = nI 6 ∨ x = nI 7 ∨ x = nI 8 ∨ x = nI 9 ∨ x = nI 10 ∨ x = nI 11 ∨ x = nI 12 ∨ x = nI 13 ∨ x = nI 14 ∨ x = nI 15 ∨ x = nI 16 ∨ x = nI 17 ∨ x = nI 18 ∨ x = nI 19 ∨ x = nI 20 ∨ x = nI 21 ∨ x = nI 22 ∨ x = nI 23 ∨ x = nI 24 ∨ x = nI 25 ∨ (x.toInt < 0 ∨ 25 < x.toInt) := by
  by_cases h : x.toInt < 0 ∨ 25 < x.toInt
  · exact Or.inr (Or.inr (Or.inr (Or.inr (Or.inr (Or.inr (Or.inr (Or.inr (Or.inr (Or.inr (Or.inr (Or.inr (Or.inr (Or.inr (Or.inr (Or.inr (Or.inr (Or.inr (Or.inr (Or.inr (Or.inr (Or.inr (Or.inr (Or.inr (Or.inr (Or.inr (h))))))))))))))))))))))))))
  · obtain ⟨k, rfl, -, hk⟩ := zz_rgx (x := x) (a := 0) (b := 25) (by decide) (by decide) ⟨by rw [Int32.le_iff_toInt_le, nI_toInt (by decide)]; omega, by rw [Int32.le_iff_toInt_le, nI_toInt (by decide)]; omega⟩
    rcases (show k = 0 ∨ k = 1 ∨ k = 2 ∨ k = 3 ∨ k = 4 ∨ k = 5 ∨ k = 6 ∨ k = 7 ∨ k = 8 ∨ k = 9 ∨ k = 10 ∨ k = 11 ∨ k = 12 ∨ k = 13 ∨ k = 14 ∨ k = 15 ∨ k = 16 ∨ k = 17 ∨ k = 18 ∨ k = 19 ∨ k = 20 ∨ k = 21 ∨ k = 22 ∨ k = 23 ∨ k = 24 ∨ k = 25 by omega) with rfl | rfl | rfl | rfl | rfl | rfl | rfl | rfl | rfl | rfl | rfl | rfl | rfl | rfl | rfl | rfl | rfl | rfl | rfl | rfl | rfl | rfl | rfl | rfl | rfl | rfl
    · exact Or.inl rfl
    · exact Or.inr (Or.inl rfl)
    · exact Or.inr (Or.inr (Or.inl rfl))
    · exact Or.inr (Or.inr (Or.inr (Or.inl rfl)))
    · exact Or.inr (Or.inr (Or.inr (Or.inr (Or.inl rfl))))
    · exact Or.inr (Or.inr (Or.inr (Or.inr (Or.inr (Or.inl rfl)))))
    · exact Or.inr (Or.inr (Or.inr (Or.inr (Or.inr (Or.inr (Or.inl rfl))))))
    · exact Or.inr (Or.inr (Or.inr (Or.inr (Or.inr (Or.inr (Or.inr (Or.inl rfl)))))))
    · exact Or.inr (Or.inr (Or.inr (Or.inr (Or.inr (Or.inr (Or.inr (Or.inr (Or.inl rfl))))))))
    · exact Or.inr (Or.inr (Or.inr (Or.inr (Or.inr (Or.inr (Or.inr (Or.inr (Or.inr (Or.inl rfl)))))))))
    · exact Or.inr (Or.inr (Or.inr (Or.inr (Or.inr (Or.inr (Or.inr (Or.inr (Or.inr (Or.inr (Or.inl rfl))))))))))
    · exact Or.inr (Or.inr (Or.inr (Or.inr (Or.inr (Or.inr (Or.inr (Or.inr (Or.inr (Or.inr (Or.inr (Or.inl rfl)))))))))))
    · exact Or.inr (Or.inr (Or.inr (Or.inr (Or.inr (Or.inr (Or.inr (Or.inr (Or.inr (Or.inr (Or.inr (Or.inr (Or.inl rfl))))))))))))
    · exact Or.inr (Or.inr (Or.inr (Or.inr (Or.inr (Or.inr (Or.inr (Or.inr (Or.inr (Or.inr (Or.inr (Or.inr (Or.inr (Or.inl rfl)))))))))))))
    · exact Or.inr (Or.inr (Or.inr (Or.inr (Or.inr (Or.inr (Or.inr (Or.inr (Or.inr (Or.inr (Or.inr (Or.inr (Or.inr (Or.inr (Or.inl rfl))))))))))))))
    · exact Or.inr (Or.inr (Or.inr (Or.inr (Or.inr (Or.inr (Or.inr (Or.inr (Or.inr (Or.inr (Or.inr (Or.inr (Or.inr (Or.inr (Or.inr (Or.inl rfl)))))))))))))))
    · exact Or.inr (Or.inr (Or.inr (Or.inr (Or.inr (Or.inr (Or.inr (Or.inr (Or.inr (Or.inr (Or.inr (Or.inr (Or.inr (Or.inr (Or.inr (Or.inr (Or.inl rfl))))))))))))))))
    · exact Or.inr (Or.inr (Or.inr (Or.inr (Or.inr (Or.inr (Or.inr (Or.inr (Or.inr (Or.inr (Or.inr (Or.inr (Or.inr (Or.inr (Or.inr (Or.inr (Or.inr (Or.inl rfl)))))))))))))))))
    · exact Or.inr (Or.inr (Or.inr (Or.inr (Or.inr (Or.inr (Or.inr (Or.inr (Or.inr (Or.inr (Or.inr (Or.inr (Or.inr (Or.inr (Or.inr (Or.inr (Or.inr (Or.inr (Or.inl rfl))))))))))))))))))
    · exact Or.inr (Or.inr (Or.inr (Or.inr (Or.inr (Or.inr (Or.inr (Or.inr (Or.inr (Or.inr (Or.inr (Or.inr (Or.inr (Or.inr (Or.inr (Or.inr (Or.inr (Or.inr (Or.inr (Or.inl rfl)))))))))))))))))))
    · exact Or.inr (Or.inr (Or.inr (Or.inr (Or.inr (Or.inr (Or.inr (Or.inr (Or.inr (Or.inr (Or.inr (Or.inr (Or.inr (Or.inr (Or.inr (Or.inr (Or.inr (Or.inr (Or.inr (Or.inr (Or.inl rfl))))))))))))))))))))
    · exact Or.inr (Or.inr (Or.inr (Or.inr (Or.inr (Or.inr (Or.inr (Or.inr (Or.inr (Or.inr (Or.inr (Or.inr (Or.inr (Or.inr (Or.inr (Or.inr (Or.inr (Or.inr (Or.inr (Or.inr (Or.inr (Or.inl rfl)))))))))))))))))))))
    · exact Or.inr (Or.inr (Or.inr (Or.inr (Or.inr (Or.inr (Or.inr (Or.inr (Or.inr (Or.inr (Or.inr (Or.inr (Or.inr (Or.inr (Or.inr (Or.inr (Or.inr (Or.inr (Or.inr (Or.inr (Or.inr (Or.inr (Or.inl rfl))))))))))))))))))))))
    · exact Or.inr (Or.inr (Or.inr (Or.inr (Or.inr (Or.inr (Or.inr (Or.inr (Or.inr (Or.inr (Or.inr (Or.inr (Or.inr (Or.inr (Or.inr (Or.inr (Or.inr (Or.inr (Or.inr (Or.inr (Or.inr (Or.inr (Or.inr (Or.inl rfl)))))))))))))))))))))))
    · exact Or.inr (Or.inr (Or.inr (Or.inr (Or.inr (Or.inr (Or.inr (Or.inr (Or.inr (Or.inr (Or.inr (Or.inr (Or.inr (Or.inr (Or.inr (Or.inr (Or.inr (Or.inr (Or.inr (Or.inr (Or.inr (Or.inr (Or.inr (Or.inr (Or.inl rfl))))))))))))))))))))))))
    · exact Or.inr (Or.inr (Or.inr (Or.inr (Or.inr (Or.inr (Or.inr (Or.inr (Or.inr (Or.inr (Or.inr (Or.inr (Or.inr (Or.inr (Or.inr (Or.inr (Or.inr (Or.inr (Or.inr (Or.inr (Or.inr (Or.inr (Or.inr (Or.inr (Or.inr (Or.inl rfl)))))))))))))))))))))))))

set_option maxRecDepth 100000 in
set_option maxHeartbeats 4000000 in
theorem l_law_say {sc : Nat × (Nat → Int32)} (I : Nat → Nat → Int32) (J : Nat → Nat → Int64) (X : zX) (i : Nat) (hL : sc.1 ≤ 2048) (hi : i + 4 ≤ sc.1) (hX : IW X) (hI : IC I X) (hO : IOm I X) (hout : ∀ (X' : zX) (I' : Nat → Nat → Int32) (J' : Nat → Nat → Int64), IW X' → IC I' X' → IOm I' X' → Ev sc 11 0 0 mL_law 812 [some (.ref 100000), some (.ref 0), some (.ref 359), some (.int (nI i))] [] (zz_SH, I', J') (fun r _ => r = some (.int (nI 1)))) : Ev sc 11 0 0 mL_law 152 [some (.ref 100000), some (.ref 0), some (.ref 359), some (.int (nI i))] [] (zz_SH, I, J) (fun r _ => r = some (.int (nI 1))) := by
  obtain ⟨r, X', hX', hCL, hML⟩ := s_say (sc := sc) hX ((zz_xs sc 0).2 (i + 1))
  refine Ev.run [(.aload_n 1, 1), (.aload_n 0, 1), (.iload_n 3, 1), (.iconst 1, 1), (.iadd, 1)] (pc' := 157) (L' := [some (.ref 100000), some (.ref 0), some (.ref 359), some (.int (nI i))]) (S' := [.int (nI i + nI 1), .ref 100000, .ref 0]) rfl (by decide +kernel) rfl ?_
  rw [nI_add i 1]
  refine Ev.xldN (i0 := 0) (i + 1) (by decide +kernel) (by decide) (rfl) (show i + 1 < sc.1 by omega) (show sc.1 < 2 ^ 31 by omega) ?_
  try dsimp only
  refine Ev.callV0 mX6_say [.int ((zz_xs sc 0).2 (i + 1))] [] _ rfl lk_RL_13 (by decide +kernel) (rfl) rfl rfl rfl (Nat.le_of_ble_eq_true rfl) (hCL I J hI) ?_
  rintro _ _ ⟨rfl, I1, J1, hI1, hk1, rfl⟩
  show Ev _ _ _ _ _ 161 [some (.ref 100000), some (.ref 0), some (.ref 359), some (.int (nI i))] [.int r] (zz_SH, I1, J1) _
  refine Ev.run [(.aload_n 2, 1), (.aload_n 0, 1), (.iload_n 3, 1), (.iconst 1, 1), (.iadd, 1)] (pc' := 166) (L' := [some (.ref 100000), some (.ref 0), some (.ref 359), some (.int (nI i))]) (S' := [.int (nI i + nI 1), .ref 100000, .ref 359, .int r]) rfl (by decide +kernel) rfl ?_
  rw [nI_add i 1]
  refine Ev.xldN (i0 := 0) (i + 1) (by decide +kernel) (by decide) (rfl) (show i + 1 < sc.1 by omega) (show sc.1 < 2 ^ 31 by omega) ?_
  try dsimp only
  refine Ev.callV0 mX7_say [.int ((zz_xs sc 0).2 (i + 1))] [.int r] _ rfl lk_RL_17 (by decide +kernel) (rfl) rfl rfl rfl (Nat.le_of_ble_eq_true rfl) (hML I1 J1 (hO.fr hk1)) ?_
  rintro _ _ ⟨rfl, I2, J2, hO2, hk2, rfl⟩
  show Ev _ _ _ _ _ 170 [some (.ref 100000), some (.ref 0), some (.ref 359), some (.int (nI i))] [.int r, .int r] (zz_SH, I2, J2) _
  refine Ev.icmp_eq (off := 642) (tgt := 812) (by decide +kernel) (by decide) (fun h170 => ?_) (fun h170 => absurd h170 (fun q => q rfl))
  exact hout X' I2 J2 hX' (hI1.fr hX' (fun c hc => hk2 c (by omega))) hO2

set_option maxRecDepth 100000 in
set_option maxHeartbeats 4000000 in
theorem l_law_wipe {sc : Nat × (Nat → Int32)} (I : Nat → Nat → Int32) (J : Nat → Nat → Int64) (X : zX) (i : Nat) (hL : sc.1 ≤ 2048) (hi : i + 4 ≤ sc.1) (hX : IW X) (hI : IC I X) (hO : IOm I X) (hout : ∀ (X' : zX) (I' : Nat → Nat → Int32) (J' : Nat → Nat → Int64), IW X' → IC I' X' → IOm I' X' → Ev sc 11 0 0 mL_law 812 [some (.ref 100000), some (.ref 0), some (.ref 359), some (.int (nI i))] [] (zz_SH, I', J') (fun r _ => r = some (.int (nI 1)))) : Ev sc 11 0 0 mL_law 175 [some (.ref 100000), some (.ref 0), some (.ref 359), some (.int (nI i))] [] (zz_SH, I, J) (fun r _ => r = some (.int (nI 1))) := by
  obtain ⟨r, X', hX', hCL, hML⟩ := s_wipe (sc := sc) hX 
  refine Ev.run [(.aload_n 1, 1)] (pc' := 176) (L' := [some (.ref 100000), some (.ref 0), some (.ref 359), some (.int (nI i))]) (S' := [.ref 0]) rfl (by decide +kernel) rfl ?_
  refine Ev.callV0 mX6_wipe [] [] _ rfl lk_RL_18 (by decide +kernel) (rfl) rfl rfl rfl (Nat.le_of_ble_eq_true rfl) (hCL I J hI) ?_
  rintro _ _ ⟨rfl, I1, J1, hI1, hk1, rfl⟩
  show Ev _ _ _ _ _ 179 [some (.ref 100000), some (.ref 0), some (.ref 359), some (.int (nI i))] [.int r] (zz_SH, I1, J1) _
  refine Ev.run [(.aload_n 2, 1)] (pc' := 180) (L' := [some (.ref 100000), some (.ref 0), some (.ref 359), some (.int (nI i))]) (S' := [.ref 359, .int r]) rfl (by decide +kernel) rfl ?_
  refine Ev.callV0 mX7_wipe [] [.int r] _ rfl lk_RL_22 (by decide +kernel) (rfl) rfl rfl rfl (Nat.le_of_ble_eq_true rfl) (hML I1 J1 (hO.fr hk1)) ?_
  rintro _ _ ⟨rfl, I2, J2, hO2, hk2, rfl⟩
  show Ev _ _ _ _ _ 183 [some (.ref 100000), some (.ref 0), some (.ref 359), some (.int (nI i))] [.int r, .int r] (zz_SH, I2, J2) _
  refine Ev.icmp_eq (off := 629) (tgt := 812) (by decide +kernel) (by decide) (fun h183 => ?_) (fun h183 => absurd h183 (fun q => q rfl))
  exact hout X' I2 J2 hX' (hI1.fr hX' (fun c hc => hk2 c (by omega))) hO2

set_option maxRecDepth 100000 in
set_option maxHeartbeats 4000000 in
theorem l_law_fault {sc : Nat × (Nat → Int32)} (I : Nat → Nat → Int32) (J : Nat → Nat → Int64) (X : zX) (i : Nat) (hL : sc.1 ≤ 2048) (hi : i + 4 ≤ sc.1) (hX : IW X) (hI : IC I X) (hO : IOm I X) (hout : ∀ (X' : zX) (I' : Nat → Nat → Int32) (J' : Nat → Nat → Int64), IW X' → IC I' X' → IOm I' X' → Ev sc 11 0 0 mL_law 812 [some (.ref 100000), some (.ref 0), some (.ref 359), some (.int (nI i))] [] (zz_SH, I', J') (fun r _ => r = some (.int (nI 1)))) : Ev sc 11 0 0 mL_law 188 [some (.ref 100000), some (.ref 0), some (.ref 359), some (.int (nI i))] [] (zz_SH, I, J) (fun r _ => r = some (.int (nI 1))) := by
  obtain ⟨r, X', hX', hCL, hML⟩ := s_fault (sc := sc) hX ((zz_xs sc 0).2 (i + 1))
  refine Ev.run [(.aload_n 1, 1), (.aload_n 0, 1), (.iload_n 3, 1), (.iconst 1, 1), (.iadd, 1)] (pc' := 193) (L' := [some (.ref 100000), some (.ref 0), some (.ref 359), some (.int (nI i))]) (S' := [.int (nI i + nI 1), .ref 100000, .ref 0]) rfl (by decide +kernel) rfl ?_
  rw [nI_add i 1]
  refine Ev.xldN (i0 := 0) (i + 1) (by decide +kernel) (by decide) (rfl) (show i + 1 < sc.1 by omega) (show sc.1 < 2 ^ 31 by omega) ?_
  try dsimp only
  refine Ev.callV0 mX6_fault [.int ((zz_xs sc 0).2 (i + 1))] [] _ rfl lk_RL_23 (by decide +kernel) (rfl) rfl rfl rfl (Nat.le_of_ble_eq_true rfl) (hCL I J hI) ?_
  rintro _ _ ⟨rfl, I1, J1, hI1, hk1, rfl⟩
  show Ev _ _ _ _ _ 197 [some (.ref 100000), some (.ref 0), some (.ref 359), some (.int (nI i))] [.int r] (zz_SH, I1, J1) _
  refine Ev.run [(.aload_n 2, 1), (.aload_n 0, 1), (.iload_n 3, 1), (.iconst 1, 1), (.iadd, 1)] (pc' := 202) (L' := [some (.ref 100000), some (.ref 0), some (.ref 359), some (.int (nI i))]) (S' := [.int (nI i + nI 1), .ref 100000, .ref 359, .int r]) rfl (by decide +kernel) rfl ?_
  rw [nI_add i 1]
  refine Ev.xldN (i0 := 0) (i + 1) (by decide +kernel) (by decide) (rfl) (show i + 1 < sc.1 by omega) (show sc.1 < 2 ^ 31 by omega) ?_
  try dsimp only
  refine Ev.callV0 mX7_fault [.int ((zz_xs sc 0).2 (i + 1))] [.int r] _ rfl lk_RL_26 (by decide +kernel) (rfl) rfl rfl rfl (Nat.le_of_ble_eq_true rfl) (hML I1 J1 (hO.fr hk1)) ?_
  rintro _ _ ⟨rfl, I2, J2, hO2, hk2, rfl⟩
  show Ev _ _ _ _ _ 206 [some (.ref 100000), some (.ref 0), some (.ref 359), some (.int (nI i))] [.int r, .int r] (zz_SH, I2, J2) _
  refine Ev.icmp_eq (off := 606) (tgt := 812) (by decide +kernel) (by decide) (fun h206 => ?_) (fun h206 => absurd h206 (fun q => q rfl))
  exact hout X' I2 J2 hX' (hI1.fr hX' (fun c hc => hk2 c (by omega))) hO2

set_option maxRecDepth 100000 in
set_option maxHeartbeats 4000000 in
theorem l_law_keep {sc : Nat × (Nat → Int32)} (I : Nat → Nat → Int32) (J : Nat → Nat → Int64) (X : zX) (i : Nat) (hL : sc.1 ≤ 2048) (hi : i + 4 ≤ sc.1) (hX : IW X) (hI : IC I X) (hO : IOm I X) (hout : ∀ (X' : zX) (I' : Nat → Nat → Int32) (J' : Nat → Nat → Int64), IW X' → IC I' X' → IOm I' X' → Ev sc 11 0 0 mL_law 812 [some (.ref 100000), some (.ref 0), some (.ref 359), some (.int (nI i))] [] (zz_SH, I', J') (fun r _ => r = some (.int (nI 1)))) : Ev sc 11 0 0 mL_law 211 [some (.ref 100000), some (.ref 0), some (.ref 359), some (.int (nI i))] [] (zz_SH, I, J) (fun r _ => r = some (.int (nI 1))) := by
  obtain ⟨r, X', hX', hCL, hML⟩ := s_keep (sc := sc) hX ((zz_xs sc 0).2 (i + 1))
  refine Ev.run [(.aload_n 1, 1), (.aload_n 0, 1), (.iload_n 3, 1), (.iconst 1, 1), (.iadd, 1)] (pc' := 216) (L' := [some (.ref 100000), some (.ref 0), some (.ref 359), some (.int (nI i))]) (S' := [.int (nI i + nI 1), .ref 100000, .ref 0]) rfl (by decide +kernel) rfl ?_
  rw [nI_add i 1]
  refine Ev.xldN (i0 := 0) (i + 1) (by decide +kernel) (by decide) (rfl) (show i + 1 < sc.1 by omega) (show sc.1 < 2 ^ 31 by omega) ?_
  try dsimp only
  refine Ev.callV0 mX6_keep [.int ((zz_xs sc 0).2 (i + 1))] [] _ rfl lk_RL_27 (by decide +kernel) (rfl) rfl rfl rfl (Nat.le_of_ble_eq_true rfl) (hCL I J hI) ?_
  rintro _ _ ⟨rfl, I1, J1, hI1, hk1, rfl⟩
  show Ev _ _ _ _ _ 220 [some (.ref 100000), some (.ref 0), some (.ref 359), some (.int (nI i))] [.int r] (zz_SH, I1, J1) _
  refine Ev.run [(.aload_n 2, 1), (.aload_n 0, 1), (.iload_n 3, 1), (.iconst 1, 1), (.iadd, 1)] (pc' := 225) (L' := [some (.ref 100000), some (.ref 0), some (.ref 359), some (.int (nI i))]) (S' := [.int (nI i + nI 1), .ref 100000, .ref 359, .int r]) rfl (by decide +kernel) rfl ?_
  rw [nI_add i 1]
  refine Ev.xldN (i0 := 0) (i + 1) (by decide +kernel) (by decide) (rfl) (show i + 1 < sc.1 by omega) (show sc.1 < 2 ^ 31 by omega) ?_
  try dsimp only
  refine Ev.callV0 mX7_keep [.int ((zz_xs sc 0).2 (i + 1))] [.int r] _ rfl lk_RL_30 (by decide +kernel) (rfl) rfl rfl rfl (Nat.le_of_ble_eq_true rfl) (hML I1 J1 (hO.fr hk1)) ?_
  rintro _ _ ⟨rfl, I2, J2, hO2, hk2, rfl⟩
  show Ev _ _ _ _ _ 229 [some (.ref 100000), some (.ref 0), some (.ref 359), some (.int (nI i))] [.int r, .int r] (zz_SH, I2, J2) _
  refine Ev.icmp_eq (off := 583) (tgt := 812) (by decide +kernel) (by decide) (fun h229 => ?_) (fun h229 => absurd h229 (fun q => q rfl))
  exact hout X' I2 J2 hX' (hI1.fr hX' (fun c hc => hk2 c (by omega))) hO2

set_option maxRecDepth 100000 in
set_option maxHeartbeats 4000000 in
theorem l_law_write {sc : Nat × (Nat → Int32)} (I : Nat → Nat → Int32) (J : Nat → Nat → Int64) (X : zX) (i : Nat) (hL : sc.1 ≤ 2048) (hi : i + 4 ≤ sc.1) (hX : IW X) (hI : IC I X) (hO : IOm I X) (hout : ∀ (X' : zX) (I' : Nat → Nat → Int32) (J' : Nat → Nat → Int64), IW X' → IC I' X' → IOm I' X' → Ev sc 11 0 0 mL_law 812 [some (.ref 100000), some (.ref 0), some (.ref 359), some (.int (nI i))] [] (zz_SH, I', J') (fun r _ => r = some (.int (nI 1)))) : Ev sc 11 0 0 mL_law 234 [some (.ref 100000), some (.ref 0), some (.ref 359), some (.int (nI i))] [] (zz_SH, I, J) (fun r _ => r = some (.int (nI 1))) := by
  obtain ⟨r, X', hX', hCL, hML⟩ := s_write (sc := sc) hX 
  refine Ev.run [(.aload_n 1, 1)] (pc' := 235) (L' := [some (.ref 100000), some (.ref 0), some (.ref 359), some (.int (nI i))]) (S' := [.ref 0]) rfl (by decide +kernel) rfl ?_
  refine Ev.callV0 mX6_write [] [] _ rfl lk_RL_31 (by decide +kernel) (rfl) rfl rfl rfl (Nat.le_of_ble_eq_true rfl) (hCL I J hI) ?_
  rintro _ _ ⟨rfl, I1, J1, hI1, hk1, rfl⟩
  show Ev _ _ _ _ _ 238 [some (.ref 100000), some (.ref 0), some (.ref 359), some (.int (nI i))] [.int r] (zz_SH, I1, J1) _
  refine Ev.run [(.aload_n 2, 1)] (pc' := 239) (L' := [some (.ref 100000), some (.ref 0), some (.ref 359), some (.int (nI i))]) (S' := [.ref 359, .int r]) rfl (by decide +kernel) rfl ?_
  refine Ev.callV0 mX7_write [] [.int r] _ rfl lk_RL_34 (by decide +kernel) (rfl) rfl rfl rfl (Nat.le_of_ble_eq_true rfl) (hML I1 J1 (hO.fr hk1)) ?_
  rintro _ _ ⟨rfl, I2, J2, hO2, hk2, rfl⟩
  show Ev _ _ _ _ _ 242 [some (.ref 100000), some (.ref 0), some (.ref 359), some (.int (nI i))] [.int r, .int r] (zz_SH, I2, J2) _
  refine Ev.icmp_eq (off := 570) (tgt := 812) (by decide +kernel) (by decide) (fun h242 => ?_) (fun h242 => absurd h242 (fun q => q rfl))
  exact hout X' I2 J2 hX' (hI1.fr hX' (fun c hc => hk2 c (by omega))) hO2

set_option maxRecDepth 100000 in
set_option maxHeartbeats 4000000 in
theorem l_law_pair {sc : Nat × (Nat → Int32)} (I : Nat → Nat → Int32) (J : Nat → Nat → Int64) (X : zX) (i : Nat) (hL : sc.1 ≤ 2048) (hi : i + 4 ≤ sc.1) (hX : IW X) (hI : IC I X) (hO : IOm I X) (hout : ∀ (X' : zX) (I' : Nat → Nat → Int32) (J' : Nat → Nat → Int64), IW X' → IC I' X' → IOm I' X' → Ev sc 11 0 0 mL_law 812 [some (.ref 100000), some (.ref 0), some (.ref 359), some (.int (nI i))] [] (zz_SH, I', J') (fun r _ => r = some (.int (nI 1)))) : Ev sc 11 0 0 mL_law 247 [some (.ref 100000), some (.ref 0), some (.ref 359), some (.int (nI i))] [] (zz_SH, I, J) (fun r _ => r = some (.int (nI 1))) := by
  obtain ⟨r, X', hX', hCL, hML⟩ := s_pair (sc := sc) hX ((zz_xs sc 0).2 (i + 1)) ((zz_xs sc 0).2 (i + 2))
  refine Ev.run [(.aload_n 1, 1), (.aload_n 0, 1), (.iload_n 3, 1), (.iconst 1, 1), (.iadd, 1)] (pc' := 252) (L' := [some (.ref 100000), some (.ref 0), some (.ref 359), some (.int (nI i))]) (S' := [.int (nI i + nI 1), .ref 100000, .ref 0]) rfl (by decide +kernel) rfl ?_
  rw [nI_add i 1]
  refine Ev.xldN (i0 := 0) (i + 1) (by decide +kernel) (by decide) (rfl) (show i + 1 < sc.1 by omega) (show sc.1 < 2 ^ 31 by omega) ?_
  try dsimp only
  refine Ev.run [(.aload_n 0, 1), (.iload_n 3, 1), (.iconst 2, 1), (.iadd, 1)] (pc' := 257) (L' := [some (.ref 100000), some (.ref 0), some (.ref 359), some (.int (nI i))]) (S' := [.int (nI i + nI 2), .ref 100000, .int ((zz_xs sc 0).2 (i + 1)), .ref 0]) rfl (by decide +kernel) rfl ?_
  rw [nI_add i 2]
  refine Ev.xldN (i0 := 0) (i + 2) (by decide +kernel) (by decide) (rfl) (show i + 2 < sc.1 by omega) (show sc.1 < 2 ^ 31 by omega) ?_
  try dsimp only
  refine Ev.callV0 mX6_pair [.int ((zz_xs sc 0).2 (i + 1)), .int ((zz_xs sc 0).2 (i + 2))] [] _ rfl lk_RL_35 (by decide +kernel) (rfl) rfl rfl rfl (Nat.le_of_ble_eq_true rfl) (hCL I J hI) ?_
  rintro _ _ ⟨rfl, I1, J1, hI1, hk1, rfl⟩
  show Ev _ _ _ _ _ 261 [some (.ref 100000), some (.ref 0), some (.ref 359), some (.int (nI i))] [.int r] (zz_SH, I1, J1) _
  refine Ev.run [(.aload_n 2, 1), (.aload_n 0, 1), (.iload_n 3, 1), (.iconst 1, 1), (.iadd, 1)] (pc' := 266) (L' := [some (.ref 100000), some (.ref 0), some (.ref 359), some (.int (nI i))]) (S' := [.int (nI i + nI 1), .ref 100000, .ref 359, .int r]) rfl (by decide +kernel) rfl ?_
  rw [nI_add i 1]
  refine Ev.xldN (i0 := 0) (i + 1) (by decide +kernel) (by decide) (rfl) (show i + 1 < sc.1 by omega) (show sc.1 < 2 ^ 31 by omega) ?_
  try dsimp only
  refine Ev.run [(.aload_n 0, 1), (.iload_n 3, 1), (.iconst 2, 1), (.iadd, 1)] (pc' := 271) (L' := [some (.ref 100000), some (.ref 0), some (.ref 359), some (.int (nI i))]) (S' := [.int (nI i + nI 2), .ref 100000, .int ((zz_xs sc 0).2 (i + 1)), .ref 359, .int r]) rfl (by decide +kernel) rfl ?_
  rw [nI_add i 2]
  refine Ev.xldN (i0 := 0) (i + 2) (by decide +kernel) (by decide) (rfl) (show i + 2 < sc.1 by omega) (show sc.1 < 2 ^ 31 by omega) ?_
  try dsimp only
  refine Ev.callV0 mX7_pair [.int ((zz_xs sc 0).2 (i + 1)), .int ((zz_xs sc 0).2 (i + 2))] [.int r] _ rfl lk_RL_39 (by decide +kernel) (rfl) rfl rfl rfl (Nat.le_of_ble_eq_true rfl) (hML I1 J1 (hO.fr hk1)) ?_
  rintro _ _ ⟨rfl, I2, J2, hO2, hk2, rfl⟩
  show Ev _ _ _ _ _ 275 [some (.ref 100000), some (.ref 0), some (.ref 359), some (.int (nI i))] [.int r, .int r] (zz_SH, I2, J2) _
  refine Ev.icmp_eq (off := 537) (tgt := 812) (by decide +kernel) (by decide) (fun h275 => ?_) (fun h275 => absurd h275 (fun q => q rfl))
  exact hout X' I2 J2 hX' (hI1.fr hX' (fun c hc => hk2 c (by omega))) hO2

set_option maxRecDepth 100000 in
set_option maxHeartbeats 4000000 in
theorem l_law_far {sc : Nat × (Nat → Int32)} (I : Nat → Nat → Int32) (J : Nat → Nat → Int64) (X : zX) (i : Nat) (hL : sc.1 ≤ 2048) (hi : i + 4 ≤ sc.1) (hX : IW X) (hI : IC I X) (hO : IOm I X) (hout : ∀ (X' : zX) (I' : Nat → Nat → Int32) (J' : Nat → Nat → Int64), IW X' → IC I' X' → IOm I' X' → Ev sc 11 0 0 mL_law 812 [some (.ref 100000), some (.ref 0), some (.ref 359), some (.int (nI i))] [] (zz_SH, I', J') (fun r _ => r = some (.int (nI 1)))) : Ev sc 11 0 0 mL_law 280 [some (.ref 100000), some (.ref 0), some (.ref 359), some (.int (nI i))] [] (zz_SH, I, J) (fun r _ => r = some (.int (nI 1))) := by
  obtain ⟨r, X', hX', hCL, hML⟩ := s_far (sc := sc) hX ((zz_xs sc 0).2 (i + 1)) ((zz_xs sc 0).2 (i + 2))
  refine Ev.run [(.aload_n 1, 1), (.aload_n 0, 1), (.iload_n 3, 1), (.iconst 1, 1), (.iadd, 1)] (pc' := 285) (L' := [some (.ref 100000), some (.ref 0), some (.ref 359), some (.int (nI i))]) (S' := [.int (nI i + nI 1), .ref 100000, .ref 0]) rfl (by decide +kernel) rfl ?_
  rw [nI_add i 1]
  refine Ev.xldN (i0 := 0) (i + 1) (by decide +kernel) (by decide) (rfl) (show i + 1 < sc.1 by omega) (show sc.1 < 2 ^ 31 by omega) ?_
  try dsimp only
  refine Ev.run [(.aload_n 0, 1), (.iload_n 3, 1), (.iconst 2, 1), (.iadd, 1)] (pc' := 290) (L' := [some (.ref 100000), some (.ref 0), some (.ref 359), some (.int (nI i))]) (S' := [.int (nI i + nI 2), .ref 100000, .int ((zz_xs sc 0).2 (i + 1)), .ref 0]) rfl (by decide +kernel) rfl ?_
  rw [nI_add i 2]
  refine Ev.xldN (i0 := 0) (i + 2) (by decide +kernel) (by decide) (rfl) (show i + 2 < sc.1 by omega) (show sc.1 < 2 ^ 31 by omega) ?_
  try dsimp only
  refine Ev.callV0 mX6_far [.int ((zz_xs sc 0).2 (i + 1)), .int ((zz_xs sc 0).2 (i + 2))] [] _ rfl lk_RL_40 (by decide +kernel) (rfl) rfl rfl rfl (Nat.le_of_ble_eq_true rfl) (hCL I J hI) ?_
  rintro _ _ ⟨rfl, I1, J1, hI1, hk1, rfl⟩
  show Ev _ _ _ _ _ 294 [some (.ref 100000), some (.ref 0), some (.ref 359), some (.int (nI i))] [.int r] (zz_SH, I1, J1) _
  refine Ev.run [(.aload_n 2, 1), (.aload_n 0, 1), (.iload_n 3, 1), (.iconst 1, 1), (.iadd, 1)] (pc' := 299) (L' := [some (.ref 100000), some (.ref 0), some (.ref 359), some (.int (nI i))]) (S' := [.int (nI i + nI 1), .ref 100000, .ref 359, .int r]) rfl (by decide +kernel) rfl ?_
  rw [nI_add i 1]
  refine Ev.xldN (i0 := 0) (i + 1) (by decide +kernel) (by decide) (rfl) (show i + 1 < sc.1 by omega) (show sc.1 < 2 ^ 31 by omega) ?_
  try dsimp only
  refine Ev.run [(.aload_n 0, 1), (.iload_n 3, 1), (.iconst 2, 1), (.iadd, 1)] (pc' := 304) (L' := [some (.ref 100000), some (.ref 0), some (.ref 359), some (.int (nI i))]) (S' := [.int (nI i + nI 2), .ref 100000, .int ((zz_xs sc 0).2 (i + 1)), .ref 359, .int r]) rfl (by decide +kernel) rfl ?_
  rw [nI_add i 2]
  refine Ev.xldN (i0 := 0) (i + 2) (by decide +kernel) (by decide) (rfl) (show i + 2 < sc.1 by omega) (show sc.1 < 2 ^ 31 by omega) ?_
  try dsimp only
  refine Ev.callV0 mX7_far [.int ((zz_xs sc 0).2 (i + 1)), .int ((zz_xs sc 0).2 (i + 2))] [.int r] _ rfl lk_RL_43 (by decide +kernel) (rfl) rfl rfl rfl (Nat.le_of_ble_eq_true rfl) (hML I1 J1 (hO.fr hk1)) ?_
  rintro _ _ ⟨rfl, I2, J2, hO2, hk2, rfl⟩
  show Ev _ _ _ _ _ 308 [some (.ref 100000), some (.ref 0), some (.ref 359), some (.int (nI i))] [.int r, .int r] (zz_SH, I2, J2) _
  refine Ev.icmp_eq (off := 504) (tgt := 812) (by decide +kernel) (by decide) (fun h308 => ?_) (fun h308 => absurd h308 (fun q => q rfl))
  exact hout X' I2 J2 hX' (hI1.fr hX' (fun c hc => hk2 c (by omega))) hO2

set_option maxRecDepth 100000 in
set_option maxHeartbeats 4000000 in
theorem l_law_match {sc : Nat × (Nat → Int32)} (I : Nat → Nat → Int32) (J : Nat → Nat → Int64) (X : zX) (i : Nat) (hL : sc.1 ≤ 2048) (hi : i + 4 ≤ sc.1) (hX : IW X) (hI : IC I X) (hO : IOm I X) (hout : ∀ (X' : zX) (I' : Nat → Nat → Int32) (J' : Nat → Nat → Int64), IW X' → IC I' X' → IOm I' X' → Ev sc 11 0 0 mL_law 812 [some (.ref 100000), some (.ref 0), some (.ref 359), some (.int (nI i))] [] (zz_SH, I', J') (fun r _ => r = some (.int (nI 1)))) : Ev sc 11 0 0 mL_law 313 [some (.ref 100000), some (.ref 0), some (.ref 359), some (.int (nI i))] [] (zz_SH, I, J) (fun r _ => r = some (.int (nI 1))) := by
  obtain ⟨r, X', hX', hCL, hML⟩ := s_match (sc := sc) hX ((zz_xs sc 0).2 (i + 1)) ((zz_xs sc 0).2 (i + 2))
  refine Ev.run [(.aload_n 1, 1), (.aload_n 0, 1), (.iload_n 3, 1), (.iconst 1, 1), (.iadd, 1)] (pc' := 318) (L' := [some (.ref 100000), some (.ref 0), some (.ref 359), some (.int (nI i))]) (S' := [.int (nI i + nI 1), .ref 100000, .ref 0]) rfl (by decide +kernel) rfl ?_
  rw [nI_add i 1]
  refine Ev.xldN (i0 := 0) (i + 1) (by decide +kernel) (by decide) (rfl) (show i + 1 < sc.1 by omega) (show sc.1 < 2 ^ 31 by omega) ?_
  try dsimp only
  refine Ev.run [(.aload_n 0, 1), (.iload_n 3, 1), (.iconst 2, 1), (.iadd, 1)] (pc' := 323) (L' := [some (.ref 100000), some (.ref 0), some (.ref 359), some (.int (nI i))]) (S' := [.int (nI i + nI 2), .ref 100000, .int ((zz_xs sc 0).2 (i + 1)), .ref 0]) rfl (by decide +kernel) rfl ?_
  rw [nI_add i 2]
  refine Ev.xldN (i0 := 0) (i + 2) (by decide +kernel) (by decide) (rfl) (show i + 2 < sc.1 by omega) (show sc.1 < 2 ^ 31 by omega) ?_
  try dsimp only
  refine Ev.callV0 mX6_match [.int ((zz_xs sc 0).2 (i + 1)), .int ((zz_xs sc 0).2 (i + 2))] [] _ rfl lk_RL_44 (by decide +kernel) (rfl) rfl rfl rfl (Nat.le_of_ble_eq_true rfl) (hCL I J hI) ?_
  rintro _ _ ⟨rfl, I1, J1, hI1, hk1, rfl⟩
  show Ev _ _ _ _ _ 327 [some (.ref 100000), some (.ref 0), some (.ref 359), some (.int (nI i))] [.int r] (zz_SH, I1, J1) _
  refine Ev.run [(.aload_n 2, 1), (.aload_n 0, 1), (.iload_n 3, 1), (.iconst 1, 1), (.iadd, 1)] (pc' := 332) (L' := [some (.ref 100000), some (.ref 0), some (.ref 359), some (.int (nI i))]) (S' := [.int (nI i + nI 1), .ref 100000, .ref 359, .int r]) rfl (by decide +kernel) rfl ?_
  rw [nI_add i 1]
  refine Ev.xldN (i0 := 0) (i + 1) (by decide +kernel) (by decide) (rfl) (show i + 1 < sc.1 by omega) (show sc.1 < 2 ^ 31 by omega) ?_
  try dsimp only
  refine Ev.run [(.aload_n 0, 1), (.iload_n 3, 1), (.iconst 2, 1), (.iadd, 1)] (pc' := 337) (L' := [some (.ref 100000), some (.ref 0), some (.ref 359), some (.int (nI i))]) (S' := [.int (nI i + nI 2), .ref 100000, .int ((zz_xs sc 0).2 (i + 1)), .ref 359, .int r]) rfl (by decide +kernel) rfl ?_
  rw [nI_add i 2]
  refine Ev.xldN (i0 := 0) (i + 2) (by decide +kernel) (by decide) (rfl) (show i + 2 < sc.1 by omega) (show sc.1 < 2 ^ 31 by omega) ?_
  try dsimp only
  refine Ev.callV0 mX7_match [.int ((zz_xs sc 0).2 (i + 1)), .int ((zz_xs sc 0).2 (i + 2))] [.int r] _ rfl lk_RL_47 (by decide +kernel) (rfl) rfl rfl rfl (Nat.le_of_ble_eq_true rfl) (hML I1 J1 (hO.fr hk1)) ?_
  rintro _ _ ⟨rfl, I2, J2, hO2, hk2, rfl⟩
  show Ev _ _ _ _ _ 341 [some (.ref 100000), some (.ref 0), some (.ref 359), some (.int (nI i))] [.int r, .int r] (zz_SH, I2, J2) _
  refine Ev.icmp_eq (off := 471) (tgt := 812) (by decide +kernel) (by decide) (fun h341 => ?_) (fun h341 => absurd h341 (fun q => q rfl))
  exact hout X' I2 J2 hX' (hI1.fr hX' (fun c hc => hk2 c (by omega))) hO2

set_option maxRecDepth 100000 in
set_option maxHeartbeats 4000000 in
theorem l_law_found {sc : Nat × (Nat → Int32)} (I : Nat → Nat → Int32) (J : Nat → Nat → Int64) (X : zX) (i : Nat) (hL : sc.1 ≤ 2048) (hi : i + 4 ≤ sc.1) (hX : IW X) (hI : IC I X) (hO : IOm I X) (hout : ∀ (X' : zX) (I' : Nat → Nat → Int32) (J' : Nat → Nat → Int64), IW X' → IC I' X' → IOm I' X' → Ev sc 11 0 0 mL_law 812 [some (.ref 100000), some (.ref 0), some (.ref 359), some (.int (nI i))] [] (zz_SH, I', J') (fun r _ => r = some (.int (nI 1)))) : Ev sc 11 0 0 mL_law 346 [some (.ref 100000), some (.ref 0), some (.ref 359), some (.int (nI i))] [] (zz_SH, I, J) (fun r _ => r = some (.int (nI 1))) := by
  obtain ⟨r, X', hX', hCL, hML⟩ := s_found (sc := sc) hX ((zz_xs sc 0).2 (i + 1)) ((zz_xs sc 0).2 (i + 2))
  refine Ev.run [(.aload_n 1, 1), (.aload_n 0, 1), (.iload_n 3, 1), (.iconst 1, 1), (.iadd, 1)] (pc' := 351) (L' := [some (.ref 100000), some (.ref 0), some (.ref 359), some (.int (nI i))]) (S' := [.int (nI i + nI 1), .ref 100000, .ref 0]) rfl (by decide +kernel) rfl ?_
  rw [nI_add i 1]
  refine Ev.xldN (i0 := 0) (i + 1) (by decide +kernel) (by decide) (rfl) (show i + 1 < sc.1 by omega) (show sc.1 < 2 ^ 31 by omega) ?_
  try dsimp only
  refine Ev.run [(.aload_n 0, 1), (.iload_n 3, 1), (.iconst 2, 1), (.iadd, 1)] (pc' := 356) (L' := [some (.ref 100000), some (.ref 0), some (.ref 359), some (.int (nI i))]) (S' := [.int (nI i + nI 2), .ref 100000, .int ((zz_xs sc 0).2 (i + 1)), .ref 0]) rfl (by decide +kernel) rfl ?_
  rw [nI_add i 2]
  refine Ev.xldN (i0 := 0) (i + 2) (by decide +kernel) (by decide) (rfl) (show i + 2 < sc.1 by omega) (show sc.1 < 2 ^ 31 by omega) ?_
  try dsimp only
  refine Ev.callV0 mX6_found [.int ((zz_xs sc 0).2 (i + 1)), .int ((zz_xs sc 0).2 (i + 2))] [] _ rfl lk_RL_48 (by decide +kernel) (rfl) rfl rfl rfl (Nat.le_of_ble_eq_true rfl) (hCL I J hI) ?_
  rintro _ _ ⟨rfl, I1, J1, hI1, hk1, rfl⟩
  show Ev _ _ _ _ _ 360 [some (.ref 100000), some (.ref 0), some (.ref 359), some (.int (nI i))] [.int r] (zz_SH, I1, J1) _
  refine Ev.run [(.aload_n 2, 1), (.aload_n 0, 1), (.iload_n 3, 1), (.iconst 1, 1), (.iadd, 1)] (pc' := 365) (L' := [some (.ref 100000), some (.ref 0), some (.ref 359), some (.int (nI i))]) (S' := [.int (nI i + nI 1), .ref 100000, .ref 359, .int r]) rfl (by decide +kernel) rfl ?_
  rw [nI_add i 1]
  refine Ev.xldN (i0 := 0) (i + 1) (by decide +kernel) (by decide) (rfl) (show i + 1 < sc.1 by omega) (show sc.1 < 2 ^ 31 by omega) ?_
  try dsimp only
  refine Ev.run [(.aload_n 0, 1), (.iload_n 3, 1), (.iconst 2, 1), (.iadd, 1)] (pc' := 370) (L' := [some (.ref 100000), some (.ref 0), some (.ref 359), some (.int (nI i))]) (S' := [.int (nI i + nI 2), .ref 100000, .int ((zz_xs sc 0).2 (i + 1)), .ref 359, .int r]) rfl (by decide +kernel) rfl ?_
  rw [nI_add i 2]
  refine Ev.xldN (i0 := 0) (i + 2) (by decide +kernel) (by decide) (rfl) (show i + 2 < sc.1 by omega) (show sc.1 < 2 ^ 31 by omega) ?_
  try dsimp only
  refine Ev.callV0 mX7_found [.int ((zz_xs sc 0).2 (i + 1)), .int ((zz_xs sc 0).2 (i + 2))] [.int r] _ rfl lk_RL_51 (by decide +kernel) (rfl) rfl rfl rfl (Nat.le_of_ble_eq_true rfl) (hML I1 J1 (hO.fr hk1)) ?_
  rintro _ _ ⟨rfl, I2, J2, hO2, hk2, rfl⟩
  show Ev _ _ _ _ _ 374 [some (.ref 100000), some (.ref 0), some (.ref 359), some (.int (nI i))] [.int r, .int r] (zz_SH, I2, J2) _
  refine Ev.icmp_eq (off := 438) (tgt := 812) (by decide +kernel) (by decide) (fun h374 => ?_) (fun h374 => absurd h374 (fun q => q rfl))
  exact hout X' I2 J2 hX' (hI1.fr hX' (fun c hc => hk2 c (by omega))) hO2

set_option maxRecDepth 100000 in
set_option maxHeartbeats 4000000 in
theorem l_law_filled {sc : Nat × (Nat → Int32)} (I : Nat → Nat → Int32) (J : Nat → Nat → Int64) (X : zX) (i : Nat) (hL : sc.1 ≤ 2048) (hi : i + 4 ≤ sc.1) (hX : IW X) (hI : IC I X) (hO : IOm I X) (hout : ∀ (X' : zX) (I' : Nat → Nat → Int32) (J' : Nat → Nat → Int64), IW X' → IC I' X' → IOm I' X' → Ev sc 11 0 0 mL_law 812 [some (.ref 100000), some (.ref 0), some (.ref 359), some (.int (nI i))] [] (zz_SH, I', J') (fun r _ => r = some (.int (nI 1)))) : Ev sc 11 0 0 mL_law 379 [some (.ref 100000), some (.ref 0), some (.ref 359), some (.int (nI i))] [] (zz_SH, I, J) (fun r _ => r = some (.int (nI 1))) := by
  obtain ⟨r, X', hX', hCL, hML⟩ := s_filled (sc := sc) hX ((zz_xs sc 0).2 (i + 1)) ((zz_xs sc 0).2 (i + 2))
  refine Ev.run [(.aload_n 1, 1), (.aload_n 0, 1), (.iload_n 3, 1), (.iconst 1, 1), (.iadd, 1)] (pc' := 384) (L' := [some (.ref 100000), some (.ref 0), some (.ref 359), some (.int (nI i))]) (S' := [.int (nI i + nI 1), .ref 100000, .ref 0]) rfl (by decide +kernel) rfl ?_
  rw [nI_add i 1]
  refine Ev.xldN (i0 := 0) (i + 1) (by decide +kernel) (by decide) (rfl) (show i + 1 < sc.1 by omega) (show sc.1 < 2 ^ 31 by omega) ?_
  try dsimp only
  refine Ev.run [(.aload_n 0, 1), (.iload_n 3, 1), (.iconst 2, 1), (.iadd, 1)] (pc' := 389) (L' := [some (.ref 100000), some (.ref 0), some (.ref 359), some (.int (nI i))]) (S' := [.int (nI i + nI 2), .ref 100000, .int ((zz_xs sc 0).2 (i + 1)), .ref 0]) rfl (by decide +kernel) rfl ?_
  rw [nI_add i 2]
  refine Ev.xldN (i0 := 0) (i + 2) (by decide +kernel) (by decide) (rfl) (show i + 2 < sc.1 by omega) (show sc.1 < 2 ^ 31 by omega) ?_
  try dsimp only
  refine Ev.callV0 mX6_filled [.int ((zz_xs sc 0).2 (i + 1)), .int ((zz_xs sc 0).2 (i + 2))] [] _ rfl lk_RL_52 (by decide +kernel) (rfl) rfl rfl rfl (Nat.le_of_ble_eq_true rfl) (hCL I J hI) ?_
  rintro _ _ ⟨rfl, I1, J1, hI1, hk1, rfl⟩
  show Ev _ _ _ _ _ 393 [some (.ref 100000), some (.ref 0), some (.ref 359), some (.int (nI i))] [.int r] (zz_SH, I1, J1) _
  refine Ev.run [(.aload_n 2, 1), (.aload_n 0, 1), (.iload_n 3, 1), (.iconst 1, 1), (.iadd, 1)] (pc' := 398) (L' := [some (.ref 100000), some (.ref 0), some (.ref 359), some (.int (nI i))]) (S' := [.int (nI i + nI 1), .ref 100000, .ref 359, .int r]) rfl (by decide +kernel) rfl ?_
  rw [nI_add i 1]
  refine Ev.xldN (i0 := 0) (i + 1) (by decide +kernel) (by decide) (rfl) (show i + 1 < sc.1 by omega) (show sc.1 < 2 ^ 31 by omega) ?_
  try dsimp only
  refine Ev.run [(.aload_n 0, 1), (.iload_n 3, 1), (.iconst 2, 1), (.iadd, 1)] (pc' := 403) (L' := [some (.ref 100000), some (.ref 0), some (.ref 359), some (.int (nI i))]) (S' := [.int (nI i + nI 2), .ref 100000, .int ((zz_xs sc 0).2 (i + 1)), .ref 359, .int r]) rfl (by decide +kernel) rfl ?_
  rw [nI_add i 2]
  refine Ev.xldN (i0 := 0) (i + 2) (by decide +kernel) (by decide) (rfl) (show i + 2 < sc.1 by omega) (show sc.1 < 2 ^ 31 by omega) ?_
  try dsimp only
  refine Ev.callV0 mX7_filled [.int ((zz_xs sc 0).2 (i + 1)), .int ((zz_xs sc 0).2 (i + 2))] [.int r] _ rfl lk_RL_55 (by decide +kernel) (rfl) rfl rfl rfl (Nat.le_of_ble_eq_true rfl) (hML I1 J1 (hO.fr hk1)) ?_
  rintro _ _ ⟨rfl, I2, J2, hO2, hk2, rfl⟩
  show Ev _ _ _ _ _ 407 [some (.ref 100000), some (.ref 0), some (.ref 359), some (.int (nI i))] [.int r, .int r] (zz_SH, I2, J2) _
  refine Ev.icmp_eq (off := 405) (tgt := 812) (by decide +kernel) (by decide) (fun h407 => ?_) (fun h407 => absurd h407 (fun q => q rfl))
  exact hout X' I2 J2 hX' (hI1.fr hX' (fun c hc => hk2 c (by omega))) hO2

set_option maxRecDepth 100000 in
set_option maxHeartbeats 4000000 in
theorem l_law_rate {sc : Nat × (Nat → Int32)} (I : Nat → Nat → Int32) (J : Nat → Nat → Int64) (X : zX) (i : Nat) (hL : sc.1 ≤ 2048) (hi : i + 4 ≤ sc.1) (hX : IW X) (hI : IC I X) (hO : IOm I X) (hout : ∀ (X' : zX) (I' : Nat → Nat → Int32) (J' : Nat → Nat → Int64), IW X' → IC I' X' → IOm I' X' → Ev sc 11 0 0 mL_law 812 [some (.ref 100000), some (.ref 0), some (.ref 359), some (.int (nI i))] [] (zz_SH, I', J') (fun r _ => r = some (.int (nI 1)))) : Ev sc 11 0 0 mL_law 412 [some (.ref 100000), some (.ref 0), some (.ref 359), some (.int (nI i))] [] (zz_SH, I, J) (fun r _ => r = some (.int (nI 1))) := by
  obtain ⟨r, X', hX', hCL, hML⟩ := s_rate (sc := sc) hX ((zz_xs sc 0).2 (i + 1)) ((zz_xs sc 0).2 (i + 2))
  refine Ev.run [(.aload_n 1, 1), (.aload_n 0, 1), (.iload_n 3, 1), (.iconst 1, 1), (.iadd, 1)] (pc' := 417) (L' := [some (.ref 100000), some (.ref 0), some (.ref 359), some (.int (nI i))]) (S' := [.int (nI i + nI 1), .ref 100000, .ref 0]) rfl (by decide +kernel) rfl ?_
  rw [nI_add i 1]
  refine Ev.xldN (i0 := 0) (i + 1) (by decide +kernel) (by decide) (rfl) (show i + 1 < sc.1 by omega) (show sc.1 < 2 ^ 31 by omega) ?_
  try dsimp only
  refine Ev.run [(.aload_n 0, 1), (.iload_n 3, 1), (.iconst 2, 1), (.iadd, 1)] (pc' := 422) (L' := [some (.ref 100000), some (.ref 0), some (.ref 359), some (.int (nI i))]) (S' := [.int (nI i + nI 2), .ref 100000, .int ((zz_xs sc 0).2 (i + 1)), .ref 0]) rfl (by decide +kernel) rfl ?_
  rw [nI_add i 2]
  refine Ev.xldN (i0 := 0) (i + 2) (by decide +kernel) (by decide) (rfl) (show i + 2 < sc.1 by omega) (show sc.1 < 2 ^ 31 by omega) ?_
  try dsimp only
  refine Ev.callV0 mX6_rate [.int ((zz_xs sc 0).2 (i + 1)), .int ((zz_xs sc 0).2 (i + 2))] [] _ rfl lk_RL_56 (by decide +kernel) (rfl) rfl rfl rfl (Nat.le_of_ble_eq_true rfl) (hCL I J hI) ?_
  rintro _ _ ⟨rfl, I1, J1, hI1, hk1, rfl⟩
  show Ev _ _ _ _ _ 426 [some (.ref 100000), some (.ref 0), some (.ref 359), some (.int (nI i))] [.int r] (zz_SH, I1, J1) _
  refine Ev.run [(.aload_n 2, 1), (.aload_n 0, 1), (.iload_n 3, 1), (.iconst 1, 1), (.iadd, 1)] (pc' := 431) (L' := [some (.ref 100000), some (.ref 0), some (.ref 359), some (.int (nI i))]) (S' := [.int (nI i + nI 1), .ref 100000, .ref 359, .int r]) rfl (by decide +kernel) rfl ?_
  rw [nI_add i 1]
  refine Ev.xldN (i0 := 0) (i + 1) (by decide +kernel) (by decide) (rfl) (show i + 1 < sc.1 by omega) (show sc.1 < 2 ^ 31 by omega) ?_
  try dsimp only
  refine Ev.run [(.aload_n 0, 1), (.iload_n 3, 1), (.iconst 2, 1), (.iadd, 1)] (pc' := 436) (L' := [some (.ref 100000), some (.ref 0), some (.ref 359), some (.int (nI i))]) (S' := [.int (nI i + nI 2), .ref 100000, .int ((zz_xs sc 0).2 (i + 1)), .ref 359, .int r]) rfl (by decide +kernel) rfl ?_
  rw [nI_add i 2]
  refine Ev.xldN (i0 := 0) (i + 2) (by decide +kernel) (by decide) (rfl) (show i + 2 < sc.1 by omega) (show sc.1 < 2 ^ 31 by omega) ?_
  try dsimp only
  refine Ev.callV0 mX7_rate [.int ((zz_xs sc 0).2 (i + 1)), .int ((zz_xs sc 0).2 (i + 2))] [.int r] _ rfl lk_RL_59 (by decide +kernel) (rfl) rfl rfl rfl (Nat.le_of_ble_eq_true rfl) (hML I1 J1 (hO.fr hk1)) ?_
  rintro _ _ ⟨rfl, I2, J2, hO2, hk2, rfl⟩
  show Ev _ _ _ _ _ 440 [some (.ref 100000), some (.ref 0), some (.ref 359), some (.int (nI i))] [.int r, .int r] (zz_SH, I2, J2) _
  refine Ev.icmp_eq (off := 372) (tgt := 812) (by decide +kernel) (by decide) (fun h440 => ?_) (fun h440 => absurd h440 (fun q => q rfl))
  exact hout X' I2 J2 hX' (hI1.fr hX' (fun c hc => hk2 c (by omega))) hO2

set_option maxRecDepth 100000 in
set_option maxHeartbeats 4000000 in
theorem l_law_price {sc : Nat × (Nat → Int32)} (I : Nat → Nat → Int32) (J : Nat → Nat → Int64) (X : zX) (i : Nat) (hL : sc.1 ≤ 2048) (hi : i + 4 ≤ sc.1) (hX : IW X) (hI : IC I X) (hO : IOm I X) (hout : ∀ (X' : zX) (I' : Nat → Nat → Int32) (J' : Nat → Nat → Int64), IW X' → IC I' X' → IOm I' X' → Ev sc 11 0 0 mL_law 812 [some (.ref 100000), some (.ref 0), some (.ref 359), some (.int (nI i))] [] (zz_SH, I', J') (fun r _ => r = some (.int (nI 1)))) : Ev sc 11 0 0 mL_law 445 [some (.ref 100000), some (.ref 0), some (.ref 359), some (.int (nI i))] [] (zz_SH, I, J) (fun r _ => r = some (.int (nI 1))) := by
  obtain ⟨r, X', hX', hCL, hML⟩ := s_price (sc := sc) hX ((zz_xs sc 0).2 (i + 1))
  refine Ev.run [(.aload_n 1, 1), (.aload_n 0, 1), (.iload_n 3, 1), (.iconst 1, 1), (.iadd, 1)] (pc' := 450) (L' := [some (.ref 100000), some (.ref 0), some (.ref 359), some (.int (nI i))]) (S' := [.int (nI i + nI 1), .ref 100000, .ref 0]) rfl (by decide +kernel) rfl ?_
  rw [nI_add i 1]
  refine Ev.xldN (i0 := 0) (i + 1) (by decide +kernel) (by decide) (rfl) (show i + 1 < sc.1 by omega) (show sc.1 < 2 ^ 31 by omega) ?_
  try dsimp only
  refine Ev.callV0 mX6_price [.int ((zz_xs sc 0).2 (i + 1))] [] _ rfl lk_RL_60 (by decide +kernel) (rfl) rfl rfl rfl (Nat.le_of_ble_eq_true rfl) (hCL I J hI) ?_
  rintro _ _ ⟨rfl, I1, J1, hI1, hk1, rfl⟩
  show Ev _ _ _ _ _ 454 [some (.ref 100000), some (.ref 0), some (.ref 359), some (.int (nI i))] [.int r] (zz_SH, I1, J1) _
  refine Ev.run [(.aload_n 2, 1), (.aload_n 0, 1), (.iload_n 3, 1), (.iconst 1, 1), (.iadd, 1)] (pc' := 459) (L' := [some (.ref 100000), some (.ref 0), some (.ref 359), some (.int (nI i))]) (S' := [.int (nI i + nI 1), .ref 100000, .ref 359, .int r]) rfl (by decide +kernel) rfl ?_
  rw [nI_add i 1]
  refine Ev.xldN (i0 := 0) (i + 1) (by decide +kernel) (by decide) (rfl) (show i + 1 < sc.1 by omega) (show sc.1 < 2 ^ 31 by omega) ?_
  try dsimp only
  refine Ev.callV0 mX7_price [.int ((zz_xs sc 0).2 (i + 1))] [.int r] _ rfl lk_RL_63 (by decide +kernel) (rfl) rfl rfl rfl (Nat.le_of_ble_eq_true rfl) (hML I1 J1 (hO.fr hk1)) ?_
  rintro _ _ ⟨rfl, I2, J2, hO2, hk2, rfl⟩
  show Ev _ _ _ _ _ 463 [some (.ref 100000), some (.ref 0), some (.ref 359), some (.int (nI i))] [.int r, .int r] (zz_SH, I2, J2) _
  refine Ev.icmp_eq (off := 349) (tgt := 812) (by decide +kernel) (by decide) (fun h463 => ?_) (fun h463 => absurd h463 (fun q => q rfl))
  exact hout X' I2 J2 hX' (hI1.fr hX' (fun c hc => hk2 c (by omega))) hO2

set_option maxRecDepth 100000 in
set_option maxHeartbeats 4000000 in
theorem l_law_order {sc : Nat × (Nat → Int32)} (I : Nat → Nat → Int32) (J : Nat → Nat → Int64) (X : zX) (i : Nat) (hL : sc.1 ≤ 2048) (hi : i + 4 ≤ sc.1) (hX : IW X) (hI : IC I X) (hO : IOm I X) (hout : ∀ (X' : zX) (I' : Nat → Nat → Int32) (J' : Nat → Nat → Int64), IW X' → IC I' X' → IOm I' X' → Ev sc 11 0 0 mL_law 812 [some (.ref 100000), some (.ref 0), some (.ref 359), some (.int (nI i))] [] (zz_SH, I', J') (fun r _ => r = some (.int (nI 1)))) : Ev sc 11 0 0 mL_law 468 [some (.ref 100000), some (.ref 0), some (.ref 359), some (.int (nI i))] [] (zz_SH, I, J) (fun r _ => r = some (.int (nI 1))) := by
  obtain ⟨r, X', hX', hCL, hML⟩ := s_order (sc := sc) hX ((zz_xs sc 0).2 (i + 1))
  refine Ev.run [(.aload_n 1, 1), (.aload_n 0, 1), (.iload_n 3, 1), (.iconst 1, 1), (.iadd, 1)] (pc' := 473) (L' := [some (.ref 100000), some (.ref 0), some (.ref 359), some (.int (nI i))]) (S' := [.int (nI i + nI 1), .ref 100000, .ref 0]) rfl (by decide +kernel) rfl ?_
  rw [nI_add i 1]
  refine Ev.xldN (i0 := 0) (i + 1) (by decide +kernel) (by decide) (rfl) (show i + 1 < sc.1 by omega) (show sc.1 < 2 ^ 31 by omega) ?_
  try dsimp only
  refine Ev.callV0 mX6_order [.int ((zz_xs sc 0).2 (i + 1))] [] _ rfl lk_RL_64 (by decide +kernel) (rfl) rfl rfl rfl (Nat.le_of_ble_eq_true rfl) (hCL I J hI) ?_
  rintro _ _ ⟨rfl, I1, J1, hI1, hk1, rfl⟩
  show Ev _ _ _ _ _ 477 [some (.ref 100000), some (.ref 0), some (.ref 359), some (.int (nI i))] [.int r] (zz_SH, I1, J1) _
  refine Ev.run [(.aload_n 2, 1), (.aload_n 0, 1), (.iload_n 3, 1), (.iconst 1, 1), (.iadd, 1)] (pc' := 482) (L' := [some (.ref 100000), some (.ref 0), some (.ref 359), some (.int (nI i))]) (S' := [.int (nI i + nI 1), .ref 100000, .ref 359, .int r]) rfl (by decide +kernel) rfl ?_
  rw [nI_add i 1]
  refine Ev.xldN (i0 := 0) (i + 1) (by decide +kernel) (by decide) (rfl) (show i + 1 < sc.1 by omega) (show sc.1 < 2 ^ 31 by omega) ?_
  try dsimp only
  refine Ev.callV0 mX7_order [.int ((zz_xs sc 0).2 (i + 1))] [.int r] _ rfl lk_RL_67 (by decide +kernel) (rfl) rfl rfl rfl (Nat.le_of_ble_eq_true rfl) (hML I1 J1 (hO.fr hk1)) ?_
  rintro _ _ ⟨rfl, I2, J2, hO2, hk2, rfl⟩
  show Ev _ _ _ _ _ 486 [some (.ref 100000), some (.ref 0), some (.ref 359), some (.int (nI i))] [.int r, .int r] (zz_SH, I2, J2) _
  refine Ev.icmp_eq (off := 326) (tgt := 812) (by decide +kernel) (by decide) (fun h486 => ?_) (fun h486 => absurd h486 (fun q => q rfl))
  exact hout X' I2 J2 hX' (hI1.fr hX' (fun c hc => hk2 c (by omega))) hO2

set_option maxRecDepth 100000 in
set_option maxHeartbeats 4000000 in
theorem l_law_kept {sc : Nat × (Nat → Int32)} (I : Nat → Nat → Int32) (J : Nat → Nat → Int64) (X : zX) (i : Nat) (hL : sc.1 ≤ 2048) (hi : i + 4 ≤ sc.1) (hX : IW X) (hI : IC I X) (hO : IOm I X) (hout : ∀ (X' : zX) (I' : Nat → Nat → Int32) (J' : Nat → Nat → Int64), IW X' → IC I' X' → IOm I' X' → Ev sc 11 0 0 mL_law 812 [some (.ref 100000), some (.ref 0), some (.ref 359), some (.int (nI i))] [] (zz_SH, I', J') (fun r _ => r = some (.int (nI 1)))) : Ev sc 11 0 0 mL_law 491 [some (.ref 100000), some (.ref 0), some (.ref 359), some (.int (nI i))] [] (zz_SH, I, J) (fun r _ => r = some (.int (nI 1))) := by
  obtain ⟨r, X', hX', hCL, hML⟩ := s_kept (sc := sc) hX 
  refine Ev.run [(.aload_n 1, 1)] (pc' := 492) (L' := [some (.ref 100000), some (.ref 0), some (.ref 359), some (.int (nI i))]) (S' := [.ref 0]) rfl (by decide +kernel) rfl ?_
  refine Ev.callV0 mX6_kept [] [] _ rfl lk_RL_68 (by decide +kernel) (rfl) rfl rfl rfl (Nat.le_of_ble_eq_true rfl) (hCL I J hI) ?_
  rintro _ _ ⟨rfl, I1, J1, hI1, hk1, rfl⟩
  show Ev _ _ _ _ _ 495 [some (.ref 100000), some (.ref 0), some (.ref 359), some (.int (nI i))] [.int r] (zz_SH, I1, J1) _
  refine Ev.run [(.aload_n 2, 1)] (pc' := 496) (L' := [some (.ref 100000), some (.ref 0), some (.ref 359), some (.int (nI i))]) (S' := [.ref 359, .int r]) rfl (by decide +kernel) rfl ?_
  refine Ev.callV0 mX7_kept [] [.int r] _ rfl lk_RL_71 (by decide +kernel) (rfl) rfl rfl rfl (Nat.le_of_ble_eq_true rfl) (hML I1 J1 (hO.fr hk1)) ?_
  rintro _ _ ⟨rfl, I2, J2, hO2, hk2, rfl⟩
  show Ev _ _ _ _ _ 499 [some (.ref 100000), some (.ref 0), some (.ref 359), some (.int (nI i))] [.int r, .int r] (zz_SH, I2, J2) _
  refine Ev.icmp_eq (off := 313) (tgt := 812) (by decide +kernel) (by decide) (fun h499 => ?_) (fun h499 => absurd h499 (fun q => q rfl))
  exact hout X' I2 J2 hX' (hI1.fr hX' (fun c hc => hk2 c (by omega))) hO2

set_option maxRecDepth 100000 in
set_option maxHeartbeats 4000000 in
theorem l_law_must {sc : Nat × (Nat → Int32)} (I : Nat → Nat → Int32) (J : Nat → Nat → Int64) (X : zX) (i : Nat) (hL : sc.1 ≤ 2048) (hi : i + 4 ≤ sc.1) (hX : IW X) (hI : IC I X) (hO : IOm I X) (hout : ∀ (X' : zX) (I' : Nat → Nat → Int32) (J' : Nat → Nat → Int64), IW X' → IC I' X' → IOm I' X' → Ev sc 11 0 0 mL_law 812 [some (.ref 100000), some (.ref 0), some (.ref 359), some (.int (nI i))] [] (zz_SH, I', J') (fun r _ => r = some (.int (nI 1)))) : Ev sc 11 0 0 mL_law 504 [some (.ref 100000), some (.ref 0), some (.ref 359), some (.int (nI i))] [] (zz_SH, I, J) (fun r _ => r = some (.int (nI 1))) := by
  obtain ⟨r, X', hX', hCL, hML⟩ := s_must (sc := sc) hX ((zz_xs sc 0).2 (i + 1)) ((zz_xs sc 0).2 (i + 2))
  refine Ev.run [(.aload_n 1, 1), (.aload_n 0, 1), (.iload_n 3, 1), (.iconst 1, 1), (.iadd, 1)] (pc' := 509) (L' := [some (.ref 100000), some (.ref 0), some (.ref 359), some (.int (nI i))]) (S' := [.int (nI i + nI 1), .ref 100000, .ref 0]) rfl (by decide +kernel) rfl ?_
  rw [nI_add i 1]
  refine Ev.xldN (i0 := 0) (i + 1) (by decide +kernel) (by decide) (rfl) (show i + 1 < sc.1 by omega) (show sc.1 < 2 ^ 31 by omega) ?_
  try dsimp only
  refine Ev.run [(.aload_n 0, 1), (.iload_n 3, 1), (.iconst 2, 1), (.iadd, 1)] (pc' := 514) (L' := [some (.ref 100000), some (.ref 0), some (.ref 359), some (.int (nI i))]) (S' := [.int (nI i + nI 2), .ref 100000, .int ((zz_xs sc 0).2 (i + 1)), .ref 0]) rfl (by decide +kernel) rfl ?_
  rw [nI_add i 2]
  refine Ev.xldN (i0 := 0) (i + 2) (by decide +kernel) (by decide) (rfl) (show i + 2 < sc.1 by omega) (show sc.1 < 2 ^ 31 by omega) ?_
  try dsimp only
  refine Ev.callV0 mX6_must [.int ((zz_xs sc 0).2 (i + 1)), .int ((zz_xs sc 0).2 (i + 2))] [] _ rfl lk_RL_72 (by decide +kernel) (rfl) rfl rfl rfl (Nat.le_of_ble_eq_true rfl) (hCL I J hI) ?_
  rintro _ _ ⟨rfl, I1, J1, hI1, hk1, rfl⟩
  show Ev _ _ _ _ _ 518 [some (.ref 100000), some (.ref 0), some (.ref 359), some (.int (nI i))] [.int r] (zz_SH, I1, J1) _
  refine Ev.run [(.aload_n 2, 1), (.aload_n 0, 1), (.iload_n 3, 1), (.iconst 1, 1), (.iadd, 1)] (pc' := 523) (L' := [some (.ref 100000), some (.ref 0), some (.ref 359), some (.int (nI i))]) (S' := [.int (nI i + nI 1), .ref 100000, .ref 359, .int r]) rfl (by decide +kernel) rfl ?_
  rw [nI_add i 1]
  refine Ev.xldN (i0 := 0) (i + 1) (by decide +kernel) (by decide) (rfl) (show i + 1 < sc.1 by omega) (show sc.1 < 2 ^ 31 by omega) ?_
  try dsimp only
  refine Ev.run [(.aload_n 0, 1), (.iload_n 3, 1), (.iconst 2, 1), (.iadd, 1)] (pc' := 528) (L' := [some (.ref 100000), some (.ref 0), some (.ref 359), some (.int (nI i))]) (S' := [.int (nI i + nI 2), .ref 100000, .int ((zz_xs sc 0).2 (i + 1)), .ref 359, .int r]) rfl (by decide +kernel) rfl ?_
  rw [nI_add i 2]
  refine Ev.xldN (i0 := 0) (i + 2) (by decide +kernel) (by decide) (rfl) (show i + 2 < sc.1 by omega) (show sc.1 < 2 ^ 31 by omega) ?_
  try dsimp only
  refine Ev.callV0 mX7_must [.int ((zz_xs sc 0).2 (i + 1)), .int ((zz_xs sc 0).2 (i + 2))] [.int r] _ rfl lk_RL_75 (by decide +kernel) (rfl) rfl rfl rfl (Nat.le_of_ble_eq_true rfl) (hML I1 J1 (hO.fr hk1)) ?_
  rintro _ _ ⟨rfl, I2, J2, hO2, hk2, rfl⟩
  show Ev _ _ _ _ _ 532 [some (.ref 100000), some (.ref 0), some (.ref 359), some (.int (nI i))] [.int r, .int r] (zz_SH, I2, J2) _
  refine Ev.icmp_eq (off := 280) (tgt := 812) (by decide +kernel) (by decide) (fun h532 => ?_) (fun h532 => absurd h532 (fun q => q rfl))
  exact hout X' I2 J2 hX' (hI1.fr hX' (fun c hc => hk2 c (by omega))) hO2

set_option maxRecDepth 100000 in
set_option maxHeartbeats 4000000 in
theorem l_law_wrongs {sc : Nat × (Nat → Int32)} (I : Nat → Nat → Int32) (J : Nat → Nat → Int64) (X : zX) (i : Nat) (hL : sc.1 ≤ 2048) (hi : i + 4 ≤ sc.1) (hX : IW X) (hI : IC I X) (hO : IOm I X) (hout : ∀ (X' : zX) (I' : Nat → Nat → Int32) (J' : Nat → Nat → Int64), IW X' → IC I' X' → IOm I' X' → Ev sc 11 0 0 mL_law 812 [some (.ref 100000), some (.ref 0), some (.ref 359), some (.int (nI i))] [] (zz_SH, I', J') (fun r _ => r = some (.int (nI 1)))) : Ev sc 11 0 0 mL_law 537 [some (.ref 100000), some (.ref 0), some (.ref 359), some (.int (nI i))] [] (zz_SH, I, J) (fun r _ => r = some (.int (nI 1))) := by
  obtain ⟨r, X', hX', hCL, hML⟩ := s_wrongs (sc := sc) hX 
  refine Ev.run [(.aload_n 1, 1)] (pc' := 538) (L' := [some (.ref 100000), some (.ref 0), some (.ref 359), some (.int (nI i))]) (S' := [.ref 0]) rfl (by decide +kernel) rfl ?_
  refine Ev.callV0 mX6_wrongs [] [] _ rfl lk_RL_76 (by decide +kernel) (rfl) rfl rfl rfl (Nat.le_of_ble_eq_true rfl) (hCL I J hI) ?_
  rintro _ _ ⟨rfl, I1, J1, hI1, hk1, rfl⟩
  show Ev _ _ _ _ _ 541 [some (.ref 100000), some (.ref 0), some (.ref 359), some (.int (nI i))] [.int r] (zz_SH, I1, J1) _
  refine Ev.run [(.aload_n 2, 1)] (pc' := 542) (L' := [some (.ref 100000), some (.ref 0), some (.ref 359), some (.int (nI i))]) (S' := [.ref 359, .int r]) rfl (by decide +kernel) rfl ?_
  refine Ev.callV0 mX7_wrongs [] [.int r] _ rfl lk_RL_79 (by decide +kernel) (rfl) rfl rfl rfl (Nat.le_of_ble_eq_true rfl) (hML I1 J1 (hO.fr hk1)) ?_
  rintro _ _ ⟨rfl, I2, J2, hO2, hk2, rfl⟩
  show Ev _ _ _ _ _ 545 [some (.ref 100000), some (.ref 0), some (.ref 359), some (.int (nI i))] [.int r, .int r] (zz_SH, I2, J2) _
  refine Ev.icmp_eq (off := 267) (tgt := 812) (by decide +kernel) (by decide) (fun h545 => ?_) (fun h545 => absurd h545 (fun q => q rfl))
  exact hout X' I2 J2 hX' (hI1.fr hX' (fun c hc => hk2 c (by omega))) hO2

set_option maxRecDepth 100000 in
set_option maxHeartbeats 4000000 in
theorem l_law_goes {sc : Nat × (Nat → Int32)} (I : Nat → Nat → Int32) (J : Nat → Nat → Int64) (X : zX) (i : Nat) (hL : sc.1 ≤ 2048) (hi : i + 4 ≤ sc.1) (hX : IW X) (hI : IC I X) (hO : IOm I X) (hout : ∀ (X' : zX) (I' : Nat → Nat → Int32) (J' : Nat → Nat → Int64), IW X' → IC I' X' → IOm I' X' → Ev sc 11 0 0 mL_law 812 [some (.ref 100000), some (.ref 0), some (.ref 359), some (.int (nI i))] [] (zz_SH, I', J') (fun r _ => r = some (.int (nI 1)))) : Ev sc 11 0 0 mL_law 550 [some (.ref 100000), some (.ref 0), some (.ref 359), some (.int (nI i))] [] (zz_SH, I, J) (fun r _ => r = some (.int (nI 1))) := by
  obtain ⟨r, X', hX', hCL, hML⟩ := s_goes (sc := sc) hX ((zz_xs sc 0).2 (i + 1)) ((zz_xs sc 0).2 (i + 2)) ((zz_xs sc 0).2 (i + 3))
  refine Ev.run [(.aload_n 1, 1), (.aload_n 0, 1), (.iload_n 3, 1), (.iconst 1, 1), (.iadd, 1)] (pc' := 555) (L' := [some (.ref 100000), some (.ref 0), some (.ref 359), some (.int (nI i))]) (S' := [.int (nI i + nI 1), .ref 100000, .ref 0]) rfl (by decide +kernel) rfl ?_
  rw [nI_add i 1]
  refine Ev.xldN (i0 := 0) (i + 1) (by decide +kernel) (by decide) (rfl) (show i + 1 < sc.1 by omega) (show sc.1 < 2 ^ 31 by omega) ?_
  try dsimp only
  refine Ev.run [(.aload_n 0, 1), (.iload_n 3, 1), (.iconst 2, 1), (.iadd, 1)] (pc' := 560) (L' := [some (.ref 100000), some (.ref 0), some (.ref 359), some (.int (nI i))]) (S' := [.int (nI i + nI 2), .ref 100000, .int ((zz_xs sc 0).2 (i + 1)), .ref 0]) rfl (by decide +kernel) rfl ?_
  rw [nI_add i 2]
  refine Ev.xldN (i0 := 0) (i + 2) (by decide +kernel) (by decide) (rfl) (show i + 2 < sc.1 by omega) (show sc.1 < 2 ^ 31 by omega) ?_
  try dsimp only
  refine Ev.run [(.aload_n 0, 1), (.iload_n 3, 1), (.iconst 3, 1), (.iadd, 1)] (pc' := 565) (L' := [some (.ref 100000), some (.ref 0), some (.ref 359), some (.int (nI i))]) (S' := [.int (nI i + nI 3), .ref 100000, .int ((zz_xs sc 0).2 (i + 2)), .int ((zz_xs sc 0).2 (i + 1)), .ref 0]) rfl (by decide +kernel) rfl ?_
  rw [nI_add i 3]
  refine Ev.xldN (i0 := 0) (i + 3) (by decide +kernel) (by decide) (rfl) (show i + 3 < sc.1 by omega) (show sc.1 < 2 ^ 31 by omega) ?_
  try dsimp only
  refine Ev.callV0 mX6_goes [.int ((zz_xs sc 0).2 (i + 1)), .int ((zz_xs sc 0).2 (i + 2)), .int ((zz_xs sc 0).2 (i + 3))] [] _ rfl lk_RL_80 (by decide +kernel) (rfl) rfl rfl rfl (Nat.le_of_ble_eq_true rfl) (hCL I J hI) ?_
  rintro _ _ ⟨rfl, I1, J1, hI1, hk1, rfl⟩
  show Ev _ _ _ _ _ 569 [some (.ref 100000), some (.ref 0), some (.ref 359), some (.int (nI i))] [.long r] (zz_SH, I1, J1) _
  refine Ev.run [(.aload_n 2, 1), (.aload_n 0, 1), (.iload_n 3, 1), (.iconst 1, 1), (.iadd, 1)] (pc' := 574) (L' := [some (.ref 100000), some (.ref 0), some (.ref 359), some (.int (nI i))]) (S' := [.int (nI i + nI 1), .ref 100000, .ref 359, .long r]) rfl (by decide +kernel) rfl ?_
  rw [nI_add i 1]
  refine Ev.xldN (i0 := 0) (i + 1) (by decide +kernel) (by decide) (rfl) (show i + 1 < sc.1 by omega) (show sc.1 < 2 ^ 31 by omega) ?_
  try dsimp only
  refine Ev.run [(.aload_n 0, 1), (.iload_n 3, 1), (.iconst 2, 1), (.iadd, 1)] (pc' := 579) (L' := [some (.ref 100000), some (.ref 0), some (.ref 359), some (.int (nI i))]) (S' := [.int (nI i + nI 2), .ref 100000, .int ((zz_xs sc 0).2 (i + 1)), .ref 359, .long r]) rfl (by decide +kernel) rfl ?_
  rw [nI_add i 2]
  refine Ev.xldN (i0 := 0) (i + 2) (by decide +kernel) (by decide) (rfl) (show i + 2 < sc.1 by omega) (show sc.1 < 2 ^ 31 by omega) ?_
  try dsimp only
  refine Ev.run [(.aload_n 0, 1), (.iload_n 3, 1), (.iconst 3, 1), (.iadd, 1)] (pc' := 584) (L' := [some (.ref 100000), some (.ref 0), some (.ref 359), some (.int (nI i))]) (S' := [.int (nI i + nI 3), .ref 100000, .int ((zz_xs sc 0).2 (i + 2)), .int ((zz_xs sc 0).2 (i + 1)), .ref 359, .long r]) rfl (by decide +kernel) rfl ?_
  rw [nI_add i 3]
  refine Ev.xldN (i0 := 0) (i + 3) (by decide +kernel) (by decide) (rfl) (show i + 3 < sc.1 by omega) (show sc.1 < 2 ^ 31 by omega) ?_
  try dsimp only
  refine Ev.callV0 mX7_goes [.int ((zz_xs sc 0).2 (i + 1)), .int ((zz_xs sc 0).2 (i + 2)), .int ((zz_xs sc 0).2 (i + 3))] [.long r] _ rfl lk_RL_84 (by decide +kernel) (rfl) rfl rfl rfl (Nat.le_of_ble_eq_true rfl) (hML I1 J1 (hO.fr hk1)) ?_
  rintro _ _ ⟨rfl, I2, J2, hO2, hk2, rfl⟩
  show Ev _ _ _ _ _ 588 [some (.ref 100000), some (.ref 0), some (.ref 359), some (.int (nI i))] [.long r, .long r] (zz_SH, I2, J2) _
  refine Ev.run [(.lcmp, 1)] (pc' := 589) (L' := [some (.ref 100000), some (.ref 0), some (.ref 359), some (.int (nI i))]) (S' := [.int (lg_cmp r r)]) rfl (by decide +kernel) rfl ?_
  refine Ev.if_eq (off := 223) (tgt := 812) (by decide +kernel) (by decide) (fun h589 => ?_) (fun h589 => absurd h589 (fun q => q (zz_lgc r)))
  exact hout X' I2 J2 hX' (hI1.fr hX' (fun c hc => hk2 c (by omega))) hO2

set_option maxRecDepth 100000 in
set_option maxHeartbeats 4000000 in
theorem l_law_learnt {sc : Nat × (Nat → Int32)} (I : Nat → Nat → Int32) (J : Nat → Nat → Int64) (X : zX) (i : Nat) (hL : sc.1 ≤ 2048) (hi : i + 4 ≤ sc.1) (hX : IW X) (hI : IC I X) (hO : IOm I X) (hout : ∀ (X' : zX) (I' : Nat → Nat → Int32) (J' : Nat → Nat → Int64), IW X' → IC I' X' → IOm I' X' → Ev sc 11 0 0 mL_law 812 [some (.ref 100000), some (.ref 0), some (.ref 359), some (.int (nI i))] [] (zz_SH, I', J') (fun r _ => r = some (.int (nI 1)))) : Ev sc 11 0 0 mL_law 594 [some (.ref 100000), some (.ref 0), some (.ref 359), some (.int (nI i))] [] (zz_SH, I, J) (fun r _ => r = some (.int (nI 1))) := by
  obtain ⟨r, X', hX', hCL, hML⟩ := s_learnt (sc := sc) hX ((zz_xs sc 0).2 (i + 1))
  refine Ev.run [(.aload_n 1, 1), (.aload_n 0, 1), (.iload_n 3, 1), (.iconst 1, 1), (.iadd, 1)] (pc' := 599) (L' := [some (.ref 100000), some (.ref 0), some (.ref 359), some (.int (nI i))]) (S' := [.int (nI i + nI 1), .ref 100000, .ref 0]) rfl (by decide +kernel) rfl ?_
  rw [nI_add i 1]
  refine Ev.xldN (i0 := 0) (i + 1) (by decide +kernel) (by decide) (rfl) (show i + 1 < sc.1 by omega) (show sc.1 < 2 ^ 31 by omega) ?_
  try dsimp only
  refine Ev.callV0 mX6_learnt [.int ((zz_xs sc 0).2 (i + 1))] [] _ rfl lk_RL_85 (by decide +kernel) (rfl) rfl rfl rfl (Nat.le_of_ble_eq_true rfl) (hCL I J hI) ?_
  rintro _ _ ⟨rfl, I1, J1, hI1, hk1, rfl⟩
  show Ev _ _ _ _ _ 603 [some (.ref 100000), some (.ref 0), some (.ref 359), some (.int (nI i))] [.int r] (zz_SH, I1, J1) _
  refine Ev.run [(.aload_n 2, 1), (.aload_n 0, 1), (.iload_n 3, 1), (.iconst 1, 1), (.iadd, 1)] (pc' := 608) (L' := [some (.ref 100000), some (.ref 0), some (.ref 359), some (.int (nI i))]) (S' := [.int (nI i + nI 1), .ref 100000, .ref 359, .int r]) rfl (by decide +kernel) rfl ?_
  rw [nI_add i 1]
  refine Ev.xldN (i0 := 0) (i + 1) (by decide +kernel) (by decide) (rfl) (show i + 1 < sc.1 by omega) (show sc.1 < 2 ^ 31 by omega) ?_
  try dsimp only
  refine Ev.callV0 mX7_learnt [.int ((zz_xs sc 0).2 (i + 1))] [.int r] _ rfl lk_RL_88 (by decide +kernel) (rfl) rfl rfl rfl (Nat.le_of_ble_eq_true rfl) (hML I1 J1 (hO.fr hk1)) ?_
  rintro _ _ ⟨rfl, I2, J2, hO2, hk2, rfl⟩
  show Ev _ _ _ _ _ 612 [some (.ref 100000), some (.ref 0), some (.ref 359), some (.int (nI i))] [.int r, .int r] (zz_SH, I2, J2) _
  refine Ev.icmp_eq (off := 200) (tgt := 812) (by decide +kernel) (by decide) (fun h612 => ?_) (fun h612 => absurd h612 (fun q => q rfl))
  exact hout X' I2 J2 hX' (hI1.fr hX' (fun c hc => hk2 c (by omega))) hO2

set_option maxRecDepth 100000 in
set_option maxHeartbeats 4000000 in
theorem l_law_otherwise {sc : Nat × (Nat → Int32)} (I : Nat → Nat → Int32) (J : Nat → Nat → Int64) (X : zX) (i : Nat) (hL : sc.1 ≤ 2048) (hi : i + 4 ≤ sc.1) (hX : IW X) (hI : IC I X) (hO : IOm I X) (hout : ∀ (X' : zX) (I' : Nat → Nat → Int32) (J' : Nat → Nat → Int64), IW X' → IC I' X' → IOm I' X' → Ev sc 11 0 0 mL_law 812 [some (.ref 100000), some (.ref 0), some (.ref 359), some (.int (nI i))] [] (zz_SH, I', J') (fun r _ => r = some (.int (nI 1)))) : Ev sc 11 0 0 mL_law 617 [some (.ref 100000), some (.ref 0), some (.ref 359), some (.int (nI i))] [] (zz_SH, I, J) (fun r _ => r = some (.int (nI 1))) := by
  obtain ⟨r, X', hX', hCL, hML⟩ := s_otherwise (sc := sc) hX ((zz_xs sc 0).2 (i + 1)) ((zz_xs sc 0).2 (i + 2)) ((zz_xs sc 0).2 (i + 3))
  refine Ev.run [(.aload_n 1, 1), (.aload_n 0, 1), (.iload_n 3, 1), (.iconst 1, 1), (.iadd, 1)] (pc' := 622) (L' := [some (.ref 100000), some (.ref 0), some (.ref 359), some (.int (nI i))]) (S' := [.int (nI i + nI 1), .ref 100000, .ref 0]) rfl (by decide +kernel) rfl ?_
  rw [nI_add i 1]
  refine Ev.xldN (i0 := 0) (i + 1) (by decide +kernel) (by decide) (rfl) (show i + 1 < sc.1 by omega) (show sc.1 < 2 ^ 31 by omega) ?_
  try dsimp only
  refine Ev.run [(.aload_n 0, 1), (.iload_n 3, 1), (.iconst 2, 1), (.iadd, 1)] (pc' := 627) (L' := [some (.ref 100000), some (.ref 0), some (.ref 359), some (.int (nI i))]) (S' := [.int (nI i + nI 2), .ref 100000, .int ((zz_xs sc 0).2 (i + 1)), .ref 0]) rfl (by decide +kernel) rfl ?_
  rw [nI_add i 2]
  refine Ev.xldN (i0 := 0) (i + 2) (by decide +kernel) (by decide) (rfl) (show i + 2 < sc.1 by omega) (show sc.1 < 2 ^ 31 by omega) ?_
  try dsimp only
  refine Ev.run [(.aload_n 0, 1), (.iload_n 3, 1), (.iconst 3, 1), (.iadd, 1)] (pc' := 632) (L' := [some (.ref 100000), some (.ref 0), some (.ref 359), some (.int (nI i))]) (S' := [.int (nI i + nI 3), .ref 100000, .int ((zz_xs sc 0).2 (i + 2)), .int ((zz_xs sc 0).2 (i + 1)), .ref 0]) rfl (by decide +kernel) rfl ?_
  rw [nI_add i 3]
  refine Ev.xldN (i0 := 0) (i + 3) (by decide +kernel) (by decide) (rfl) (show i + 3 < sc.1 by omega) (show sc.1 < 2 ^ 31 by omega) ?_
  try dsimp only
  refine Ev.callV0 mX6_otherwise [.int ((zz_xs sc 0).2 (i + 1)), .int ((zz_xs sc 0).2 (i + 2)), .int ((zz_xs sc 0).2 (i + 3))] [] _ rfl lk_RL_89 (by decide +kernel) (rfl) rfl rfl rfl (Nat.le_of_ble_eq_true rfl) (hCL I J hI) ?_
  rintro _ _ ⟨rfl, I1, J1, hI1, hk1, rfl⟩
  show Ev _ _ _ _ _ 636 [some (.ref 100000), some (.ref 0), some (.ref 359), some (.int (nI i))] [.int r] (zz_SH, I1, J1) _
  refine Ev.run [(.aload_n 2, 1), (.aload_n 0, 1), (.iload_n 3, 1), (.iconst 1, 1), (.iadd, 1)] (pc' := 641) (L' := [some (.ref 100000), some (.ref 0), some (.ref 359), some (.int (nI i))]) (S' := [.int (nI i + nI 1), .ref 100000, .ref 359, .int r]) rfl (by decide +kernel) rfl ?_
  rw [nI_add i 1]
  refine Ev.xldN (i0 := 0) (i + 1) (by decide +kernel) (by decide) (rfl) (show i + 1 < sc.1 by omega) (show sc.1 < 2 ^ 31 by omega) ?_
  try dsimp only
  refine Ev.run [(.aload_n 0, 1), (.iload_n 3, 1), (.iconst 2, 1), (.iadd, 1)] (pc' := 646) (L' := [some (.ref 100000), some (.ref 0), some (.ref 359), some (.int (nI i))]) (S' := [.int (nI i + nI 2), .ref 100000, .int ((zz_xs sc 0).2 (i + 1)), .ref 359, .int r]) rfl (by decide +kernel) rfl ?_
  rw [nI_add i 2]
  refine Ev.xldN (i0 := 0) (i + 2) (by decide +kernel) (by decide) (rfl) (show i + 2 < sc.1 by omega) (show sc.1 < 2 ^ 31 by omega) ?_
  try dsimp only
  refine Ev.run [(.aload_n 0, 1), (.iload_n 3, 1), (.iconst 3, 1), (.iadd, 1)] (pc' := 651) (L' := [some (.ref 100000), some (.ref 0), some (.ref 359), some (.int (nI i))]) (S' := [.int (nI i + nI 3), .ref 100000, .int ((zz_xs sc 0).2 (i + 2)), .int ((zz_xs sc 0).2 (i + 1)), .ref 359, .int r]) rfl (by decide +kernel) rfl ?_
  rw [nI_add i 3]
  refine Ev.xldN (i0 := 0) (i + 3) (by decide +kernel) (by decide) (rfl) (show i + 3 < sc.1 by omega) (show sc.1 < 2 ^ 31 by omega) ?_
  try dsimp only
  refine Ev.callV0 mX7_otherwise [.int ((zz_xs sc 0).2 (i + 1)), .int ((zz_xs sc 0).2 (i + 2)), .int ((zz_xs sc 0).2 (i + 3))] [.int r] _ rfl lk_RL_93 (by decide +kernel) (rfl) rfl rfl rfl (Nat.le_of_ble_eq_true rfl) (hML I1 J1 (hO.fr hk1)) ?_
  rintro _ _ ⟨rfl, I2, J2, hO2, hk2, rfl⟩
  show Ev _ _ _ _ _ 655 [some (.ref 100000), some (.ref 0), some (.ref 359), some (.int (nI i))] [.int r, .int r] (zz_SH, I2, J2) _
  refine Ev.icmp_eq (off := 157) (tgt := 812) (by decide +kernel) (by decide) (fun h655 => ?_) (fun h655 => absurd h655 (fun q => q rfl))
  exact hout X' I2 J2 hX' (hI1.fr hX' (fun c hc => hk2 c (by omega))) hO2

set_option maxRecDepth 100000 in
set_option maxHeartbeats 4000000 in
theorem l_law_clash {sc : Nat × (Nat → Int32)} (I : Nat → Nat → Int32) (J : Nat → Nat → Int64) (X : zX) (i : Nat) (hL : sc.1 ≤ 2048) (hi : i + 4 ≤ sc.1) (hX : IW X) (hI : IC I X) (hO : IOm I X) (hout : ∀ (X' : zX) (I' : Nat → Nat → Int32) (J' : Nat → Nat → Int64), IW X' → IC I' X' → IOm I' X' → Ev sc 11 0 0 mL_law 812 [some (.ref 100000), some (.ref 0), some (.ref 359), some (.int (nI i))] [] (zz_SH, I', J') (fun r _ => r = some (.int (nI 1)))) : Ev sc 11 0 0 mL_law 660 [some (.ref 100000), some (.ref 0), some (.ref 359), some (.int (nI i))] [] (zz_SH, I, J) (fun r _ => r = some (.int (nI 1))) := by
  obtain ⟨r, X', hX', hCL, hML⟩ := s_clash (sc := sc) hX 
  refine Ev.run [(.aload_n 1, 1)] (pc' := 661) (L' := [some (.ref 100000), some (.ref 0), some (.ref 359), some (.int (nI i))]) (S' := [.ref 0]) rfl (by decide +kernel) rfl ?_
  refine Ev.callV0 mX6_clash [] [] _ rfl lk_RL_94 (by decide +kernel) (rfl) rfl rfl rfl (Nat.le_of_ble_eq_true rfl) (hCL I J hI) ?_
  rintro _ _ ⟨rfl, I1, J1, hI1, hk1, rfl⟩
  show Ev _ _ _ _ _ 664 [some (.ref 100000), some (.ref 0), some (.ref 359), some (.int (nI i))] [.int r] (zz_SH, I1, J1) _
  refine Ev.run [(.aload_n 2, 1)] (pc' := 665) (L' := [some (.ref 100000), some (.ref 0), some (.ref 359), some (.int (nI i))]) (S' := [.ref 359, .int r]) rfl (by decide +kernel) rfl ?_
  refine Ev.callV0 mX7_clash [] [.int r] _ rfl lk_RL_97 (by decide +kernel) (rfl) rfl rfl rfl (Nat.le_of_ble_eq_true rfl) (hML I1 J1 (hO.fr hk1)) ?_
  rintro _ _ ⟨rfl, I2, J2, hO2, hk2, rfl⟩
  show Ev _ _ _ _ _ 668 [some (.ref 100000), some (.ref 0), some (.ref 359), some (.int (nI i))] [.int r, .int r] (zz_SH, I2, J2) _
  refine Ev.icmp_eq (off := 144) (tgt := 812) (by decide +kernel) (by decide) (fun h668 => ?_) (fun h668 => absurd h668 (fun q => q rfl))
  exact hout X' I2 J2 hX' (hI1.fr hX' (fun c hc => hk2 c (by omega))) hO2

set_option maxRecDepth 100000 in
set_option maxHeartbeats 4000000 in
theorem l_law_length {sc : Nat × (Nat → Int32)} (I : Nat → Nat → Int32) (J : Nat → Nat → Int64) (X : zX) (i : Nat) (hL : sc.1 ≤ 2048) (hi : i + 4 ≤ sc.1) (hX : IW X) (hI : IC I X) (hO : IOm I X) (hout : ∀ (X' : zX) (I' : Nat → Nat → Int32) (J' : Nat → Nat → Int64), IW X' → IC I' X' → IOm I' X' → Ev sc 11 0 0 mL_law 812 [some (.ref 100000), some (.ref 0), some (.ref 359), some (.int (nI i))] [] (zz_SH, I', J') (fun r _ => r = some (.int (nI 1)))) : Ev sc 11 0 0 mL_law 673 [some (.ref 100000), some (.ref 0), some (.ref 359), some (.int (nI i))] [] (zz_SH, I, J) (fun r _ => r = some (.int (nI 1))) := by
  obtain ⟨r, X', hX', hCL, hML⟩ := s_length (sc := sc) hX ((zz_xs sc 0).2 (i + 1)) ((zz_xs sc 0).2 (i + 2))
  refine Ev.run [(.aload_n 1, 1), (.aload_n 0, 1), (.iload_n 3, 1), (.iconst 1, 1), (.iadd, 1)] (pc' := 678) (L' := [some (.ref 100000), some (.ref 0), some (.ref 359), some (.int (nI i))]) (S' := [.int (nI i + nI 1), .ref 100000, .ref 0]) rfl (by decide +kernel) rfl ?_
  rw [nI_add i 1]
  refine Ev.xldN (i0 := 0) (i + 1) (by decide +kernel) (by decide) (rfl) (show i + 1 < sc.1 by omega) (show sc.1 < 2 ^ 31 by omega) ?_
  try dsimp only
  refine Ev.run [(.aload_n 0, 1), (.iload_n 3, 1), (.iconst 2, 1), (.iadd, 1)] (pc' := 683) (L' := [some (.ref 100000), some (.ref 0), some (.ref 359), some (.int (nI i))]) (S' := [.int (nI i + nI 2), .ref 100000, .int ((zz_xs sc 0).2 (i + 1)), .ref 0]) rfl (by decide +kernel) rfl ?_
  rw [nI_add i 2]
  refine Ev.xldN (i0 := 0) (i + 2) (by decide +kernel) (by decide) (rfl) (show i + 2 < sc.1 by omega) (show sc.1 < 2 ^ 31 by omega) ?_
  try dsimp only
  refine Ev.callV0 mX6_length [.int ((zz_xs sc 0).2 (i + 1)), .int ((zz_xs sc 0).2 (i + 2))] [] _ rfl lk_RL_98 (by decide +kernel) (rfl) rfl rfl rfl (Nat.le_of_ble_eq_true rfl) (hCL I J hI) ?_
  rintro _ _ ⟨rfl, I1, J1, hI1, hk1, rfl⟩
  show Ev _ _ _ _ _ 687 [some (.ref 100000), some (.ref 0), some (.ref 359), some (.int (nI i))] [.int r] (zz_SH, I1, J1) _
  refine Ev.run [(.aload_n 2, 1), (.aload_n 0, 1), (.iload_n 3, 1), (.iconst 1, 1), (.iadd, 1)] (pc' := 692) (L' := [some (.ref 100000), some (.ref 0), some (.ref 359), some (.int (nI i))]) (S' := [.int (nI i + nI 1), .ref 100000, .ref 359, .int r]) rfl (by decide +kernel) rfl ?_
  rw [nI_add i 1]
  refine Ev.xldN (i0 := 0) (i + 1) (by decide +kernel) (by decide) (rfl) (show i + 1 < sc.1 by omega) (show sc.1 < 2 ^ 31 by omega) ?_
  try dsimp only
  refine Ev.run [(.aload_n 0, 1), (.iload_n 3, 1), (.iconst 2, 1), (.iadd, 1)] (pc' := 697) (L' := [some (.ref 100000), some (.ref 0), some (.ref 359), some (.int (nI i))]) (S' := [.int (nI i + nI 2), .ref 100000, .int ((zz_xs sc 0).2 (i + 1)), .ref 359, .int r]) rfl (by decide +kernel) rfl ?_
  rw [nI_add i 2]
  refine Ev.xldN (i0 := 0) (i + 2) (by decide +kernel) (by decide) (rfl) (show i + 2 < sc.1 by omega) (show sc.1 < 2 ^ 31 by omega) ?_
  try dsimp only
  refine Ev.callV0 mX7_length [.int ((zz_xs sc 0).2 (i + 1)), .int ((zz_xs sc 0).2 (i + 2))] [.int r] _ rfl lk_RL_101 (by decide +kernel) (rfl) rfl rfl rfl (Nat.le_of_ble_eq_true rfl) (hML I1 J1 (hO.fr hk1)) ?_
  rintro _ _ ⟨rfl, I2, J2, hO2, hk2, rfl⟩
  show Ev _ _ _ _ _ 701 [some (.ref 100000), some (.ref 0), some (.ref 359), some (.int (nI i))] [.int r, .int r] (zz_SH, I2, J2) _
  refine Ev.icmp_eq (off := 111) (tgt := 812) (by decide +kernel) (by decide) (fun h701 => ?_) (fun h701 => absurd h701 (fun q => q rfl))
  exact hout X' I2 J2 hX' (hI1.fr hX' (fun c hc => hk2 c (by omega))) hO2

set_option maxRecDepth 100000 in
set_option maxHeartbeats 4000000 in
theorem l_law_lengths {sc : Nat × (Nat → Int32)} (I : Nat → Nat → Int32) (J : Nat → Nat → Int64) (X : zX) (i : Nat) (hL : sc.1 ≤ 2048) (hi : i + 4 ≤ sc.1) (hX : IW X) (hI : IC I X) (hO : IOm I X) (hout : ∀ (X' : zX) (I' : Nat → Nat → Int32) (J' : Nat → Nat → Int64), IW X' → IC I' X' → IOm I' X' → Ev sc 11 0 0 mL_law 812 [some (.ref 100000), some (.ref 0), some (.ref 359), some (.int (nI i))] [] (zz_SH, I', J') (fun r _ => r = some (.int (nI 1)))) : Ev sc 11 0 0 mL_law 706 [some (.ref 100000), some (.ref 0), some (.ref 359), some (.int (nI i))] [] (zz_SH, I, J) (fun r _ => r = some (.int (nI 1))) := by
  obtain ⟨r, X', hX', hCL, hML⟩ := s_lengths (sc := sc) hX 
  refine Ev.run [(.aload_n 1, 1)] (pc' := 707) (L' := [some (.ref 100000), some (.ref 0), some (.ref 359), some (.int (nI i))]) (S' := [.ref 0]) rfl (by decide +kernel) rfl ?_
  refine Ev.callV0 mX6_lengths [] [] _ rfl lk_RL_102 (by decide +kernel) (rfl) rfl rfl rfl (Nat.le_of_ble_eq_true rfl) (hCL I J hI) ?_
  rintro _ _ ⟨rfl, I1, J1, hI1, hk1, rfl⟩
  show Ev _ _ _ _ _ 710 [some (.ref 100000), some (.ref 0), some (.ref 359), some (.int (nI i))] [.int r] (zz_SH, I1, J1) _
  refine Ev.run [(.aload_n 2, 1)] (pc' := 711) (L' := [some (.ref 100000), some (.ref 0), some (.ref 359), some (.int (nI i))]) (S' := [.ref 359, .int r]) rfl (by decide +kernel) rfl ?_
  refine Ev.callV0 mX7_lengths [] [.int r] _ rfl lk_RL_105 (by decide +kernel) (rfl) rfl rfl rfl (Nat.le_of_ble_eq_true rfl) (hML I1 J1 (hO.fr hk1)) ?_
  rintro _ _ ⟨rfl, I2, J2, hO2, hk2, rfl⟩
  show Ev _ _ _ _ _ 714 [some (.ref 100000), some (.ref 0), some (.ref 359), some (.int (nI i))] [.int r, .int r] (zz_SH, I2, J2) _
  refine Ev.icmp_eq (off := 98) (tgt := 812) (by decide +kernel) (by decide) (fun h714 => ?_) (fun h714 => absurd h714 (fun q => q rfl))
  exact hout X' I2 J2 hX' (hI1.fr hX' (fun c hc => hk2 c (by omega))) hO2

set_option maxRecDepth 100000 in
set_option maxHeartbeats 4000000 in
theorem l_law_laid {sc : Nat × (Nat → Int32)} (I : Nat → Nat → Int32) (J : Nat → Nat → Int64) (X : zX) (i : Nat) (hL : sc.1 ≤ 2048) (hi : i + 4 ≤ sc.1) (hX : IW X) (hI : IC I X) (hO : IOm I X) (hout : ∀ (X' : zX) (I' : Nat → Nat → Int32) (J' : Nat → Nat → Int64), IW X' → IC I' X' → IOm I' X' → Ev sc 11 0 0 mL_law 812 [some (.ref 100000), some (.ref 0), some (.ref 359), some (.int (nI i))] [] (zz_SH, I', J') (fun r _ => r = some (.int (nI 1)))) : Ev sc 11 0 0 mL_law 719 [some (.ref 100000), some (.ref 0), some (.ref 359), some (.int (nI i))] [] (zz_SH, I, J) (fun r _ => r = some (.int (nI 1))) := by
  obtain ⟨r, X', hX', hCL, hML⟩ := s_laid (sc := sc) hX ((zz_xs sc 0).2 (i + 1))
  refine Ev.run [(.aload_n 1, 1), (.aload_n 0, 1), (.iload_n 3, 1), (.iconst 1, 1), (.iadd, 1)] (pc' := 724) (L' := [some (.ref 100000), some (.ref 0), some (.ref 359), some (.int (nI i))]) (S' := [.int (nI i + nI 1), .ref 100000, .ref 0]) rfl (by decide +kernel) rfl ?_
  rw [nI_add i 1]
  refine Ev.xldN (i0 := 0) (i + 1) (by decide +kernel) (by decide) (rfl) (show i + 1 < sc.1 by omega) (show sc.1 < 2 ^ 31 by omega) ?_
  try dsimp only
  refine Ev.callV0 mX6_laid [.int ((zz_xs sc 0).2 (i + 1))] [] _ rfl lk_RL_106 (by decide +kernel) (rfl) rfl rfl rfl (Nat.le_of_ble_eq_true rfl) (hCL I J hI) ?_
  rintro _ _ ⟨rfl, I1, J1, hI1, hk1, rfl⟩
  show Ev _ _ _ _ _ 728 [some (.ref 100000), some (.ref 0), some (.ref 359), some (.int (nI i))] [.long r] (zz_SH, I1, J1) _
  refine Ev.run [(.aload_n 2, 1), (.aload_n 0, 1), (.iload_n 3, 1), (.iconst 1, 1), (.iadd, 1)] (pc' := 733) (L' := [some (.ref 100000), some (.ref 0), some (.ref 359), some (.int (nI i))]) (S' := [.int (nI i + nI 1), .ref 100000, .ref 359, .long r]) rfl (by decide +kernel) rfl ?_
  rw [nI_add i 1]
  refine Ev.xldN (i0 := 0) (i + 1) (by decide +kernel) (by decide) (rfl) (show i + 1 < sc.1 by omega) (show sc.1 < 2 ^ 31 by omega) ?_
  try dsimp only
  refine Ev.callV0 mX7_laid [.int ((zz_xs sc 0).2 (i + 1))] [.long r] _ rfl lk_RL_110 (by decide +kernel) (rfl) rfl rfl rfl (Nat.le_of_ble_eq_true rfl) (hML I1 J1 (hO.fr hk1)) ?_
  rintro _ _ ⟨rfl, I2, J2, hO2, hk2, rfl⟩
  show Ev _ _ _ _ _ 737 [some (.ref 100000), some (.ref 0), some (.ref 359), some (.int (nI i))] [.long r, .long r] (zz_SH, I2, J2) _
  refine Ev.run [(.lcmp, 1)] (pc' := 738) (L' := [some (.ref 100000), some (.ref 0), some (.ref 359), some (.int (nI i))]) (S' := [.int (lg_cmp r r)]) rfl (by decide +kernel) rfl ?_
  refine Ev.if_eq (off := 74) (tgt := 812) (by decide +kernel) (by decide) (fun h738 => ?_) (fun h738 => absurd h738 (fun q => q (zz_lgc r)))
  exact hout X' I2 J2 hX' (hI1.fr hX' (fun c hc => hk2 c (by omega))) hO2

set_option maxRecDepth 100000 in
set_option maxHeartbeats 4000000 in
theorem l_law_image {sc : Nat × (Nat → Int32)} (I : Nat → Nat → Int32) (J : Nat → Nat → Int64) (X : zX) (i : Nat) (hL : sc.1 ≤ 2048) (hi : i + 4 ≤ sc.1) (hX : IW X) (hI : IC I X) (hO : IOm I X) (hout : ∀ (X' : zX) (I' : Nat → Nat → Int32) (J' : Nat → Nat → Int64), IW X' → IC I' X' → IOm I' X' → Ev sc 11 0 0 mL_law 812 [some (.ref 100000), some (.ref 0), some (.ref 359), some (.int (nI i))] [] (zz_SH, I', J') (fun r _ => r = some (.int (nI 1)))) : Ev sc 11 0 0 mL_law 743 [some (.ref 100000), some (.ref 0), some (.ref 359), some (.int (nI i))] [] (zz_SH, I, J) (fun r _ => r = some (.int (nI 1))) := by
  obtain ⟨r, X', hX', hCL, hML⟩ := s_image (sc := sc) hX ((zz_xs sc 0).2 (i + 1))
  refine Ev.run [(.aload_n 1, 1), (.aload_n 0, 1), (.iload_n 3, 1), (.iconst 1, 1), (.iadd, 1)] (pc' := 748) (L' := [some (.ref 100000), some (.ref 0), some (.ref 359), some (.int (nI i))]) (S' := [.int (nI i + nI 1), .ref 100000, .ref 0]) rfl (by decide +kernel) rfl ?_
  rw [nI_add i 1]
  refine Ev.xldN (i0 := 0) (i + 1) (by decide +kernel) (by decide) (rfl) (show i + 1 < sc.1 by omega) (show sc.1 < 2 ^ 31 by omega) ?_
  try dsimp only
  refine Ev.callV0 mX6_image [.int ((zz_xs sc 0).2 (i + 1))] [] _ rfl lk_RL_111 (by decide +kernel) (rfl) rfl rfl rfl (Nat.le_of_ble_eq_true rfl) (hCL I J hI) ?_
  rintro _ _ ⟨rfl, I1, J1, hI1, hk1, rfl⟩
  show Ev _ _ _ _ _ 752 [some (.ref 100000), some (.ref 0), some (.ref 359), some (.int (nI i))] [.int r] (zz_SH, I1, J1) _
  refine Ev.run [(.aload_n 2, 1), (.aload_n 0, 1), (.iload_n 3, 1), (.iconst 1, 1), (.iadd, 1)] (pc' := 757) (L' := [some (.ref 100000), some (.ref 0), some (.ref 359), some (.int (nI i))]) (S' := [.int (nI i + nI 1), .ref 100000, .ref 359, .int r]) rfl (by decide +kernel) rfl ?_
  rw [nI_add i 1]
  refine Ev.xldN (i0 := 0) (i + 1) (by decide +kernel) (by decide) (rfl) (show i + 1 < sc.1 by omega) (show sc.1 < 2 ^ 31 by omega) ?_
  try dsimp only
  refine Ev.callV0 mX7_image [.int ((zz_xs sc 0).2 (i + 1))] [.int r] _ rfl lk_RL_114 (by decide +kernel) (rfl) rfl rfl rfl (Nat.le_of_ble_eq_true rfl) (hML I1 J1 (hO.fr hk1)) ?_
  rintro _ _ ⟨rfl, I2, J2, hO2, hk2, rfl⟩
  show Ev _ _ _ _ _ 761 [some (.ref 100000), some (.ref 0), some (.ref 359), some (.int (nI i))] [.int r, .int r] (zz_SH, I2, J2) _
  refine Ev.icmp_eq (off := 51) (tgt := 812) (by decide +kernel) (by decide) (fun h761 => ?_) (fun h761 => absurd h761 (fun q => q rfl))
  exact hout X' I2 J2 hX' (hI1.fr hX' (fun c hc => hk2 c (by omega))) hO2

set_option maxRecDepth 100000 in
set_option maxHeartbeats 4000000 in
theorem l_law_restore {sc : Nat × (Nat → Int32)} (I : Nat → Nat → Int32) (J : Nat → Nat → Int64) (X : zX) (i : Nat) (hL : sc.1 ≤ 2048) (hi : i + 4 ≤ sc.1) (hX : IW X) (hI : IC I X) (hO : IOm I X) (hout : ∀ (X' : zX) (I' : Nat → Nat → Int32) (J' : Nat → Nat → Int64), IW X' → IC I' X' → IOm I' X' → Ev sc 11 0 0 mL_law 812 [some (.ref 100000), some (.ref 0), some (.ref 359), some (.int (nI i))] [] (zz_SH, I', J') (fun r _ => r = some (.int (nI 1)))) : Ev sc 11 0 0 mL_law 766 [some (.ref 100000), some (.ref 0), some (.ref 359), some (.int (nI i))] [] (zz_SH, I, J) (fun r _ => r = some (.int (nI 1))) := by
  obtain ⟨r, X', hX', hCL, hML⟩ := s_restore (sc := sc) hX ((zz_xs sc 0).2 (i + 1))
  refine Ev.run [(.aload_n 1, 1), (.aload_n 0, 1), (.iload_n 3, 1), (.iconst 1, 1), (.iadd, 1)] (pc' := 771) (L' := [some (.ref 100000), some (.ref 0), some (.ref 359), some (.int (nI i))]) (S' := [.int (nI i + nI 1), .ref 100000, .ref 0]) rfl (by decide +kernel) rfl ?_
  rw [nI_add i 1]
  refine Ev.xldN (i0 := 0) (i + 1) (by decide +kernel) (by decide) (rfl) (show i + 1 < sc.1 by omega) (show sc.1 < 2 ^ 31 by omega) ?_
  try dsimp only
  refine Ev.callV0 mX6_restore [.int ((zz_xs sc 0).2 (i + 1))] [] _ rfl lk_RL_115 (by decide +kernel) (rfl) rfl rfl rfl (Nat.le_of_ble_eq_true rfl) (hCL I J hI) ?_
  rintro _ _ ⟨rfl, I1, J1, hI1, hk1, rfl⟩
  show Ev _ _ _ _ _ 775 [some (.ref 100000), some (.ref 0), some (.ref 359), some (.int (nI i))] [.int r] (zz_SH, I1, J1) _
  refine Ev.run [(.aload_n 2, 1), (.aload_n 0, 1), (.iload_n 3, 1), (.iconst 1, 1), (.iadd, 1)] (pc' := 780) (L' := [some (.ref 100000), some (.ref 0), some (.ref 359), some (.int (nI i))]) (S' := [.int (nI i + nI 1), .ref 100000, .ref 359, .int r]) rfl (by decide +kernel) rfl ?_
  rw [nI_add i 1]
  refine Ev.xldN (i0 := 0) (i + 1) (by decide +kernel) (by decide) (rfl) (show i + 1 < sc.1 by omega) (show sc.1 < 2 ^ 31 by omega) ?_
  try dsimp only
  refine Ev.callV0 mX7_restore [.int ((zz_xs sc 0).2 (i + 1))] [.int r] _ rfl lk_RL_118 (by decide +kernel) (rfl) rfl rfl rfl (Nat.le_of_ble_eq_true rfl) (hML I1 J1 (hO.fr hk1)) ?_
  rintro _ _ ⟨rfl, I2, J2, hO2, hk2, rfl⟩
  show Ev _ _ _ _ _ 784 [some (.ref 100000), some (.ref 0), some (.ref 359), some (.int (nI i))] [.int r, .int r] (zz_SH, I2, J2) _
  refine Ev.icmp_eq (off := 28) (tgt := 812) (by decide +kernel) (by decide) (fun h784 => ?_) (fun h784 => absurd h784 (fun q => q rfl))
  exact hout X' I2 J2 hX' (hI1.fr hX' (fun c hc => hk2 c (by omega))) hO2

set_option maxRecDepth 100000 in
set_option maxHeartbeats 4000000 in
theorem l_law_told {sc : Nat × (Nat → Int32)} (I : Nat → Nat → Int32) (J : Nat → Nat → Int64) (X : zX) (i : Nat) (hL : sc.1 ≤ 2048) (hi : i + 4 ≤ sc.1) (hX : IW X) (hI : IC I X) (hO : IOm I X) (hout : ∀ (X' : zX) (I' : Nat → Nat → Int32) (J' : Nat → Nat → Int64), IW X' → IC I' X' → IOm I' X' → Ev sc 11 0 0 mL_law 812 [some (.ref 100000), some (.ref 0), some (.ref 359), some (.int (nI i))] [] (zz_SH, I', J') (fun r _ => r = some (.int (nI 1)))) : Ev sc 11 0 0 mL_law 789 [some (.ref 100000), some (.ref 0), some (.ref 359), some (.int (nI i))] [] (zz_SH, I, J) (fun r _ => r = some (.int (nI 1))) := by
  obtain ⟨r, X', hX', hCL, hML⟩ := s_told (sc := sc) hX ((zz_xs sc 0).2 (i + 1))
  refine Ev.run [(.aload_n 1, 1), (.aload_n 0, 1), (.iload_n 3, 1), (.iconst 1, 1), (.iadd, 1)] (pc' := 794) (L' := [some (.ref 100000), some (.ref 0), some (.ref 359), some (.int (nI i))]) (S' := [.int (nI i + nI 1), .ref 100000, .ref 0]) rfl (by decide +kernel) rfl ?_
  rw [nI_add i 1]
  refine Ev.xldN (i0 := 0) (i + 1) (by decide +kernel) (by decide) (rfl) (show i + 1 < sc.1 by omega) (show sc.1 < 2 ^ 31 by omega) ?_
  try dsimp only
  refine Ev.callV0 mX6_told [.int ((zz_xs sc 0).2 (i + 1))] [] _ rfl lk_RL_119 (by decide +kernel) (rfl) rfl rfl rfl (Nat.le_of_ble_eq_true rfl) (hCL I J hI) ?_
  rintro _ _ ⟨rfl, I1, J1, hI1, hk1, rfl⟩
  show Ev _ _ _ _ _ 798 [some (.ref 100000), some (.ref 0), some (.ref 359), some (.int (nI i))] [.int r] (zz_SH, I1, J1) _
  refine Ev.run [(.aload_n 2, 1), (.aload_n 0, 1), (.iload_n 3, 1), (.iconst 1, 1), (.iadd, 1)] (pc' := 803) (L' := [some (.ref 100000), some (.ref 0), some (.ref 359), some (.int (nI i))]) (S' := [.int (nI i + nI 1), .ref 100000, .ref 359, .int r]) rfl (by decide +kernel) rfl ?_
  rw [nI_add i 1]
  refine Ev.xldN (i0 := 0) (i + 1) (by decide +kernel) (by decide) (rfl) (show i + 1 < sc.1 by omega) (show sc.1 < 2 ^ 31 by omega) ?_
  try dsimp only
  refine Ev.callV0 mX7_told [.int ((zz_xs sc 0).2 (i + 1))] [.int r] _ rfl lk_RL_122 (by decide +kernel) (rfl) rfl rfl rfl (Nat.le_of_ble_eq_true rfl) (hML I1 J1 (hO.fr hk1)) ?_
  rintro _ _ ⟨rfl, I2, J2, hO2, hk2, rfl⟩
  show Ev _ _ _ _ _ 807 [some (.ref 100000), some (.ref 0), some (.ref 359), some (.int (nI i))] [.int r, .int r] (zz_SH, I2, J2) _
  refine Ev.icmp_eq (off := 5) (tgt := 812) (by decide +kernel) (by decide) (fun h807 => ?_) (fun h807 => absurd h807 (fun q => q rfl))
  exact hout X' I2 J2 hX' (hI1.fr hX' (fun c hc => hk2 c (by omega))) hO2

set_option maxRecDepth 100000 in
set_option maxHeartbeats 4000000 in
theorem l_law {sc : Nat × (Nat → Int32)} (hL : sc.1 ≤ 2048) : ∀ (μ : Nat) (i : Nat) (X : zX) (I : Nat → Nat → Int32) (J : Nat → Nat → Int64), 3000 - i < μ → i ≤ 2052 → IW X → IC I X → IOm I X → Ev sc 11 0 0 mL_law 18 [some (.ref 100000), some (.ref 0), some (.ref 359), some (.int (nI i))] [] (zz_SH, I, J) (fun r _ => r = some (.int (nI 1))) := by
  intro μ
  induction μ with
  | zero => intro i X I J hμ; exact absurd hμ (Nat.not_lt_zero _)
  | succ μ ih =>
    intro i X I J hμ hi hX hI hO
    have hout : i + 4 ≤ sc.1 → ∀ (X' : zX) (I' : Nat → Nat → Int32) (J' : Nat → Nat → Int64), IW X' → IC I' X' → IOm I' X' → Ev sc 11 0 0 mL_law 812 [some (.ref 100000), some (.ref 0), some (.ref 359), some (.int (nI i))] [] (zz_SH, I', J') (fun r _ => r = some (.int (nI 1))) := by
      intro h4 X' I' J' a1 a2 a3
      refine Ev.run [(.iinc 3 4, 3)] (pc' := 815) (L' := [some (.ref 100000), some (.ref 0), some (.ref 359), some (.int (nI i + nI 4))]) (S' := []) rfl (by decide +kernel) rfl ?_
      rw [nI_add i 4]
      refine Ev.goto (off := (-797)) (tgt := 18) (by decide +kernel) (by decide) ?_
      exact ih (i + 4) X' I' J' (by omega) (by omega) a1 a2 a3
    refine Ev.run [(.iload_n 3, 1), (.aload_n 0, 1)] (pc' := 20) (L' := [some (.ref 100000), some (.ref 0), some (.ref 359), some (.int (nI i))]) (S' := [.ref 100000, .int (nI i)]) rfl (by decide +kernel) rfl ?_
    refine Ev.xlen (i0 := 0) (by decide +kernel) (by decide) ?_
    refine Ev.run [(.iconst 4, 1), (.isub, 1)] (pc' := 23) (L' := [some (.ref 100000), some (.ref 0), some (.ref 359), some (.int (nI i))]) (S' := [.int (nI ((zz_xs sc 0).1) - nI 4), .int (nI i)]) rfl (by decide +kernel) rfl ?_
    refine Ev.icmp_gt (off := 795) (tgt := 818) (by decide +kernel) (by decide) (fun h23 => ?_) (fun h23 => ?_)
    · refine Ev.run [(.iconst 1, 1)] (pc' := 819) (L' := [some (.ref 100000), some (.ref 0), some (.ref 359), some (.int (nI i))]) (S' := [.int (nI 1)]) rfl (by decide +kernel) rfl ?_
      exact Ev.zret rfl (by decide +kernel) (Or.inr rfl) (rfl)
    · have h4 : i + 4 ≤ sc.1 := zz_l4 (L := sc.1) hL (by omega) h23
      refine Ev.run [(.aload_n 0, 1), (.iload_n 3, 1)] (pc' := 28) (L' := [some (.ref 100000), some (.ref 0), some (.ref 359), some (.int (nI i))]) (S' := [.int (nI i), .ref 100000]) rfl (by decide +kernel) rfl ?_
      refine Ev.xldN (i0 := 0) i (by decide +kernel) (by decide) (rfl) (show i < sc.1 by omega) (show sc.1 < 2 ^ 31 by omega) ?_
      try dsimp only
      refine Ev.run [(.bipush 31, 2), (.iand, 1)] (pc' := 32) (L' := [some (.ref 100000), some (.ref 0), some (.ref 359), some (.int (nI i))]) (S' := [.int (((zz_xs sc 0).2 i) &&& nI 31)]) rfl (by decide +kernel) rfl ?_
      rcases zz_sw26 ((zz_xs sc 0).2 i &&& nI 31) with hsw | hsw | hsw | hsw | hsw | hsw | hsw | hsw | hsw | hsw | hsw | hsw | hsw | hsw | hsw | hsw | hsw | hsw | hsw | hsw | hsw | hsw | hsw | hsw | hsw | hsw | hsw
      · rw [hsw]
        refine Ev.tblIn (dflt := 780) (lo := 0) (hi := 25) (offs := #[120, 143, 156, 179, 202, 215, 248, 281, 314, 347, 380, 413, 436, 459, 472, 505, 518, 562, 585, 628, 641, 674, 687, 711, 734, 757]) (len := 120) (off := 120) (tgt := 152) (by decide +kernel) (by decide) (by decide) (by decide) (by decide) ?_
        exact l_law_say I J X i hL h4 hX hI hO (hout h4)
      · rw [hsw]
        refine Ev.tblIn (dflt := 780) (lo := 0) (hi := 25) (offs := #[120, 143, 156, 179, 202, 215, 248, 281, 314, 347, 380, 413, 436, 459, 472, 505, 518, 562, 585, 628, 641, 674, 687, 711, 734, 757]) (len := 120) (off := 143) (tgt := 175) (by decide +kernel) (by decide) (by decide) (by decide) (by decide) ?_
        exact l_law_wipe I J X i hL h4 hX hI hO (hout h4)
      · rw [hsw]
        refine Ev.tblIn (dflt := 780) (lo := 0) (hi := 25) (offs := #[120, 143, 156, 179, 202, 215, 248, 281, 314, 347, 380, 413, 436, 459, 472, 505, 518, 562, 585, 628, 641, 674, 687, 711, 734, 757]) (len := 120) (off := 156) (tgt := 188) (by decide +kernel) (by decide) (by decide) (by decide) (by decide) ?_
        exact l_law_fault I J X i hL h4 hX hI hO (hout h4)
      · rw [hsw]
        refine Ev.tblIn (dflt := 780) (lo := 0) (hi := 25) (offs := #[120, 143, 156, 179, 202, 215, 248, 281, 314, 347, 380, 413, 436, 459, 472, 505, 518, 562, 585, 628, 641, 674, 687, 711, 734, 757]) (len := 120) (off := 179) (tgt := 211) (by decide +kernel) (by decide) (by decide) (by decide) (by decide) ?_
        exact l_law_keep I J X i hL h4 hX hI hO (hout h4)
      · rw [hsw]
        refine Ev.tblIn (dflt := 780) (lo := 0) (hi := 25) (offs := #[120, 143, 156, 179, 202, 215, 248, 281, 314, 347, 380, 413, 436, 459, 472, 505, 518, 562, 585, 628, 641, 674, 687, 711, 734, 757]) (len := 120) (off := 202) (tgt := 234) (by decide +kernel) (by decide) (by decide) (by decide) (by decide) ?_
        exact l_law_write I J X i hL h4 hX hI hO (hout h4)
      · rw [hsw]
        refine Ev.tblIn (dflt := 780) (lo := 0) (hi := 25) (offs := #[120, 143, 156, 179, 202, 215, 248, 281, 314, 347, 380, 413, 436, 459, 472, 505, 518, 562, 585, 628, 641, 674, 687, 711, 734, 757]) (len := 120) (off := 215) (tgt := 247) (by decide +kernel) (by decide) (by decide) (by decide) (by decide) ?_
        exact l_law_pair I J X i hL h4 hX hI hO (hout h4)
      · rw [hsw]
        refine Ev.tblIn (dflt := 780) (lo := 0) (hi := 25) (offs := #[120, 143, 156, 179, 202, 215, 248, 281, 314, 347, 380, 413, 436, 459, 472, 505, 518, 562, 585, 628, 641, 674, 687, 711, 734, 757]) (len := 120) (off := 248) (tgt := 280) (by decide +kernel) (by decide) (by decide) (by decide) (by decide) ?_
        exact l_law_far I J X i hL h4 hX hI hO (hout h4)
      · rw [hsw]
        refine Ev.tblIn (dflt := 780) (lo := 0) (hi := 25) (offs := #[120, 143, 156, 179, 202, 215, 248, 281, 314, 347, 380, 413, 436, 459, 472, 505, 518, 562, 585, 628, 641, 674, 687, 711, 734, 757]) (len := 120) (off := 281) (tgt := 313) (by decide +kernel) (by decide) (by decide) (by decide) (by decide) ?_
        exact l_law_match I J X i hL h4 hX hI hO (hout h4)
      · rw [hsw]
        refine Ev.tblIn (dflt := 780) (lo := 0) (hi := 25) (offs := #[120, 143, 156, 179, 202, 215, 248, 281, 314, 347, 380, 413, 436, 459, 472, 505, 518, 562, 585, 628, 641, 674, 687, 711, 734, 757]) (len := 120) (off := 314) (tgt := 346) (by decide +kernel) (by decide) (by decide) (by decide) (by decide) ?_
        exact l_law_found I J X i hL h4 hX hI hO (hout h4)
      · rw [hsw]
        refine Ev.tblIn (dflt := 780) (lo := 0) (hi := 25) (offs := #[120, 143, 156, 179, 202, 215, 248, 281, 314, 347, 380, 413, 436, 459, 472, 505, 518, 562, 585, 628, 641, 674, 687, 711, 734, 757]) (len := 120) (off := 347) (tgt := 379) (by decide +kernel) (by decide) (by decide) (by decide) (by decide) ?_
        exact l_law_filled I J X i hL h4 hX hI hO (hout h4)
      · rw [hsw]
        refine Ev.tblIn (dflt := 780) (lo := 0) (hi := 25) (offs := #[120, 143, 156, 179, 202, 215, 248, 281, 314, 347, 380, 413, 436, 459, 472, 505, 518, 562, 585, 628, 641, 674, 687, 711, 734, 757]) (len := 120) (off := 380) (tgt := 412) (by decide +kernel) (by decide) (by decide) (by decide) (by decide) ?_
        exact l_law_rate I J X i hL h4 hX hI hO (hout h4)
      · rw [hsw]
        refine Ev.tblIn (dflt := 780) (lo := 0) (hi := 25) (offs := #[120, 143, 156, 179, 202, 215, 248, 281, 314, 347, 380, 413, 436, 459, 472, 505, 518, 562, 585, 628, 641, 674, 687, 711, 734, 757]) (len := 120) (off := 413) (tgt := 445) (by decide +kernel) (by decide) (by decide) (by decide) (by decide) ?_
        exact l_law_price I J X i hL h4 hX hI hO (hout h4)
      · rw [hsw]
        refine Ev.tblIn (dflt := 780) (lo := 0) (hi := 25) (offs := #[120, 143, 156, 179, 202, 215, 248, 281, 314, 347, 380, 413, 436, 459, 472, 505, 518, 562, 585, 628, 641, 674, 687, 711, 734, 757]) (len := 120) (off := 436) (tgt := 468) (by decide +kernel) (by decide) (by decide) (by decide) (by decide) ?_
        exact l_law_order I J X i hL h4 hX hI hO (hout h4)
      · rw [hsw]
        refine Ev.tblIn (dflt := 780) (lo := 0) (hi := 25) (offs := #[120, 143, 156, 179, 202, 215, 248, 281, 314, 347, 380, 413, 436, 459, 472, 505, 518, 562, 585, 628, 641, 674, 687, 711, 734, 757]) (len := 120) (off := 459) (tgt := 491) (by decide +kernel) (by decide) (by decide) (by decide) (by decide) ?_
        exact l_law_kept I J X i hL h4 hX hI hO (hout h4)
      · rw [hsw]
        refine Ev.tblIn (dflt := 780) (lo := 0) (hi := 25) (offs := #[120, 143, 156, 179, 202, 215, 248, 281, 314, 347, 380, 413, 436, 459, 472, 505, 518, 562, 585, 628, 641, 674, 687, 711, 734, 757]) (len := 120) (off := 472) (tgt := 504) (by decide +kernel) (by decide) (by decide) (by decide) (by decide) ?_
        exact l_law_must I J X i hL h4 hX hI hO (hout h4)
      · rw [hsw]
        refine Ev.tblIn (dflt := 780) (lo := 0) (hi := 25) (offs := #[120, 143, 156, 179, 202, 215, 248, 281, 314, 347, 380, 413, 436, 459, 472, 505, 518, 562, 585, 628, 641, 674, 687, 711, 734, 757]) (len := 120) (off := 505) (tgt := 537) (by decide +kernel) (by decide) (by decide) (by decide) (by decide) ?_
        exact l_law_wrongs I J X i hL h4 hX hI hO (hout h4)
      · rw [hsw]
        refine Ev.tblIn (dflt := 780) (lo := 0) (hi := 25) (offs := #[120, 143, 156, 179, 202, 215, 248, 281, 314, 347, 380, 413, 436, 459, 472, 505, 518, 562, 585, 628, 641, 674, 687, 711, 734, 757]) (len := 120) (off := 518) (tgt := 550) (by decide +kernel) (by decide) (by decide) (by decide) (by decide) ?_
        exact l_law_goes I J X i hL h4 hX hI hO (hout h4)
      · rw [hsw]
        refine Ev.tblIn (dflt := 780) (lo := 0) (hi := 25) (offs := #[120, 143, 156, 179, 202, 215, 248, 281, 314, 347, 380, 413, 436, 459, 472, 505, 518, 562, 585, 628, 641, 674, 687, 711, 734, 757]) (len := 120) (off := 562) (tgt := 594) (by decide +kernel) (by decide) (by decide) (by decide) (by decide) ?_
        exact l_law_learnt I J X i hL h4 hX hI hO (hout h4)
      · rw [hsw]
        refine Ev.tblIn (dflt := 780) (lo := 0) (hi := 25) (offs := #[120, 143, 156, 179, 202, 215, 248, 281, 314, 347, 380, 413, 436, 459, 472, 505, 518, 562, 585, 628, 641, 674, 687, 711, 734, 757]) (len := 120) (off := 585) (tgt := 617) (by decide +kernel) (by decide) (by decide) (by decide) (by decide) ?_
        exact l_law_otherwise I J X i hL h4 hX hI hO (hout h4)
      · rw [hsw]
        refine Ev.tblIn (dflt := 780) (lo := 0) (hi := 25) (offs := #[120, 143, 156, 179, 202, 215, 248, 281, 314, 347, 380, 413, 436, 459, 472, 505, 518, 562, 585, 628, 641, 674, 687, 711, 734, 757]) (len := 120) (off := 628) (tgt := 660) (by decide +kernel) (by decide) (by decide) (by decide) (by decide) ?_
        exact l_law_clash I J X i hL h4 hX hI hO (hout h4)
      · rw [hsw]
        refine Ev.tblIn (dflt := 780) (lo := 0) (hi := 25) (offs := #[120, 143, 156, 179, 202, 215, 248, 281, 314, 347, 380, 413, 436, 459, 472, 505, 518, 562, 585, 628, 641, 674, 687, 711, 734, 757]) (len := 120) (off := 641) (tgt := 673) (by decide +kernel) (by decide) (by decide) (by decide) (by decide) ?_
        exact l_law_length I J X i hL h4 hX hI hO (hout h4)
      · rw [hsw]
        refine Ev.tblIn (dflt := 780) (lo := 0) (hi := 25) (offs := #[120, 143, 156, 179, 202, 215, 248, 281, 314, 347, 380, 413, 436, 459, 472, 505, 518, 562, 585, 628, 641, 674, 687, 711, 734, 757]) (len := 120) (off := 674) (tgt := 706) (by decide +kernel) (by decide) (by decide) (by decide) (by decide) ?_
        exact l_law_lengths I J X i hL h4 hX hI hO (hout h4)
      · rw [hsw]
        refine Ev.tblIn (dflt := 780) (lo := 0) (hi := 25) (offs := #[120, 143, 156, 179, 202, 215, 248, 281, 314, 347, 380, 413, 436, 459, 472, 505, 518, 562, 585, 628, 641, 674, 687, 711, 734, 757]) (len := 120) (off := 687) (tgt := 719) (by decide +kernel) (by decide) (by decide) (by decide) (by decide) ?_
        exact l_law_laid I J X i hL h4 hX hI hO (hout h4)
      · rw [hsw]
        refine Ev.tblIn (dflt := 780) (lo := 0) (hi := 25) (offs := #[120, 143, 156, 179, 202, 215, 248, 281, 314, 347, 380, 413, 436, 459, 472, 505, 518, 562, 585, 628, 641, 674, 687, 711, 734, 757]) (len := 120) (off := 711) (tgt := 743) (by decide +kernel) (by decide) (by decide) (by decide) (by decide) ?_
        exact l_law_image I J X i hL h4 hX hI hO (hout h4)
      · rw [hsw]
        refine Ev.tblIn (dflt := 780) (lo := 0) (hi := 25) (offs := #[120, 143, 156, 179, 202, 215, 248, 281, 314, 347, 380, 413, 436, 459, 472, 505, 518, 562, 585, 628, 641, 674, 687, 711, 734, 757]) (len := 120) (off := 734) (tgt := 766) (by decide +kernel) (by decide) (by decide) (by decide) (by decide) ?_
        exact l_law_restore I J X i hL h4 hX hI hO (hout h4)
      · rw [hsw]
        refine Ev.tblIn (dflt := 780) (lo := 0) (hi := 25) (offs := #[120, 143, 156, 179, 202, 215, 248, 281, 314, 347, 380, 413, 436, 459, 472, 505, 518, 562, 585, 628, 641, 674, 687, 711, 734, 757]) (len := 120) (off := 757) (tgt := 789) (by decide +kernel) (by decide) (by decide) (by decide) (by decide) ?_
        exact l_law_told I J X i hL h4 hX hI hO (hout h4)
      · refine Ev.tblOut (dflt := 780) (lo := 0) (hi := 25) (offs := #[120, 143, 156, 179, 202, 215, 248, 281, 314, 347, 380, 413, 436, 459, 472, 505, 518, 562, 585, 628, 641, 674, 687, 711, 734, 757]) (len := 120) (tgt := 812) (by decide +kernel) (hsw) (by decide) ?_
        exact hout h4 X I J hX hI hO
