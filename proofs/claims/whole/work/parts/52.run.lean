/-! ===== a constructor's run ===== -/
abbrev zz_Kt : Type := Nat → Nat → Option (List zz_SK × List (List Int32) × Nat × Nat)
def zz_cc (mi : Nat) : Nat := match mi with
  | 1 => 4
  | 2 => 2
  | 3 => 1
  | 4 => 3
  | 5 => 0
  | 6 => 5
  | _ => 6
def zz_jd (k : Nat) (dt dr : List (List Int32)) : List (List Int32) := dt ++ (List.replicate (k - dt.length) [] ++ dr)
theorem zz_jd_ok {k : Nat} {dt dr : List (List Int32)} (h : dt.length ≤ k) : zz_D (zz_jd k dt dr) = zz_jn k (zz_D dt) (zz_D dr) := by
  funext c j
  show ((zz_jd k dt dr).getD c []).getD j 0 = _
  unfold zz_jd zz_jn
  rw [List.getD_eq_getElem?_getD (l := dt ++ _)]
  by_cases h1 : c < k
  · rw [if_pos h1]
    show _ = (dt.getD c []).getD j 0
    rw [List.getD_eq_getElem?_getD (l := dt)]
    by_cases h2 : c < dt.length
    · rw [List.getElem?_append_left h2]
    · rw [List.getElem?_append_right (by omega), List.getElem?_append_left (by simp; omega), List.getElem?_replicate, if_pos (by omega), List.getElem?_eq_none (l := dt) (by omega)]
      rfl
  · rw [if_neg h1, List.getElem?_append_right (by omega), List.getElem?_append_right (by simp; omega)]
    show _ = (dr.getD (c - k) []).getD j 0
    rw [List.getD_eq_getElem?_getD (l := dr), List.length_replicate, show c - dt.length - (k - dt.length) = c - k by omega]
theorem zz_jn_id {k : Nat} {dt : List (List Int32)} (h : dt.length ≤ k) : zz_D dt = zz_jn k (zz_D dt) (zz_D []) := by
  have e := zz_jd_ok (dr := []) h
  rw [← e]
  funext c j
  show (dt.getD c []).getD j 0 = ((zz_jd k dt []).getD c []).getD j 0
  unfold zz_jd
  rw [List.getD_eq_getElem?_getD (l := dt), List.getD_eq_getElem?_getD (l := dt ++ _), List.append_nil]
  by_cases h2 : c < dt.length
  · rw [List.getElem?_append_left h2]
  · rw [List.getElem?_append_right (by omega), List.getElem?_eq_none (by omega), List.getElem?_replicate]
    split <;> rfl
theorem zJ0_jn (k : Nat) : zJ0 = zz_jn k zJ0 zJ0 := by
  funext c j
  unfold zz_jn
  split <;> rfl
theorem zz_df_sk (k ci : Nat) : zz_sk k (.inl (ci, zz_df ci)) = .inl (ci, zz_df ci) := by
  show Sum.inl (ci, (zz_df ci).map _) = Sum.inl (ci, zz_df ci)
  unfold zz_df
  rw [List.map_map]
  congr 2
  apply List.map_congr_left
  intro j _
  show Option.map _ (if _ then none else some none) = _
  split <;> rfl
theorem zz_df_sml (ci : Nat) : zz_sml (.inl (ci, zz_df ci)) = true := by
  show (zz_df ci).all zz_o2 = true
  rw [List.all_eq_true]
  intro y hy
  unfold zz_df at hy
  obtain ⟨j, -, rfl⟩ := List.mem_map.mp hy
  split <;> rfl
def zz_pc (k n m : Nat) (r : List Value) (SH Xr : List zz_SK) (dt : List (List Int32)) : Bool := Nat.beq n 3 && (Nat.ble ((r.map fun v => v.category).sum) 8 && (Nat.blt k 1000 && (Nat.beq SH.length (k + 1) && (decide (SH.drop k = [.inl (zz_cc m, zz_df (zz_cc m))]) && (Nat.ble dt.length k && (Xr.all zz_sml && Nat.blt Xr.length 1000))))))
theorem zz_prim {sc : Nat × (Nat → Int32)} {d cr sr k n m : Nat} {M : zz_MD} {r : List Value} {SH Xr : List zz_SK} {dt dr : List (List Int32)} (h : zz_pc k n m r SH Xr dt = true) (hE : EvM sc d cr sr M [.ref 0] ([.inl (zz_cc m, zz_df (zz_cc m))], zz_D [], zJ0) (fun r σ => r = none ∧ σ = (Xr, zz_D dr, zJ0))) :
    EvM sc d cr sr M [.ref k] (SH, zz_D dt, zJ0) (fun r σ => r = none ∧ σ = (SH.take k ++ Xr.map (zz_sk k), zz_D (zz_jd k dt dr), zJ0)) := by
  unfold zz_pc at h
  simp only [Bool.and_eq_true, decide_eq_true_eq] at h
  obtain ⟨-, -, h3, h4, h5, h6, h7, h8⟩ := h
  have h3 := Nat.le_of_ble_eq_true h3
  have h4 := Nat.eq_of_beq_eq_true h4
  have h6 := Nat.le_of_ble_eq_true h6
  have h8 := Nat.le_of_ble_eq_true h8
  have hs := EvM.shift (P := SH.take k) (I := zz_D dt) (J := zJ0) (k := k) h3 (by rw [List.length_take]; omega) (fun x hx => by rw [List.mem_singleton.mp hx]; exact zz_df_sml _) (fun x hx => List.all_eq_true.mp h7 x hx) h8 hE
  rw [List.map_singleton, zz_df_sk, ← h5, List.take_append_drop, ← zz_jn_id h6, ← zJ0_jn, ← zz_jd_ok h6] at hs
  exact hs
def zz_args (m : Nat) (S : List Value) : Option (List Value × Nat × List Value) := match m with
  | 1 => match S with
    | .int x :: .ref k :: r => some ([.int x], k, r)
    | _ => none
  | _ => match S with
    | .ref k :: r => some ([], k, r)
    | _ => none
theorem zz_args_ok {m : Nat} {S as r : List Value} {k : Nat} (h : zz_args m S = some (as, k, r)) : S = as.reverse ++ .ref k :: r ∧ as.length = zz_np m ∧ (as.all (fun v => v.category == 1)) = true := by
  unfold zz_args at h
  split at h
  · split at h
    · cases h; exact ⟨rfl, rfl, rfl⟩
    · cases h
  · next hm =>
    split at h
    · cases h; exact ⟨rfl, (if_neg hm).symm, rfl⟩
    · cases h
/-! the constructors, decoded -/
def zz_it (mi : Nat) : List (Nat × Instr × Nat) := match mi with
  | 1 => [(0, .aload_n 0, 1), (1, .invokespecial 3, 3), (4, .aload_n 0, 1), (5, .iload_n 1, 1), (6, .ifCond .ge 7, 3), (9, .iconst 0, 1), (10, .goto 4, 3), (13, .iload_n 1, 1), (14, .newarray .int, 2), (16, .putfield 9, 3), (19, .aload_n 0, 1), (20, .iconst 0, 1), (21, .putfield 15, 3), (24, .return_, 1)]
  | 2 => [(0, .aload_n 0, 1), (1, .invokespecial 3, 3), (4, .aload_n 0, 1), (5, .bipush 12, 2), (7, .anewarray 9, 3), (10, .putfield 11, 3), (13, .aload_n 0, 1), (14, .bipush 12, 2), (16, .anewarray 9, 3), (19, .putfield 17, 3), (22, .aload_n 0, 1), (23, .bipush 12, 2), (25, .newarray .int, 2), (27, .putfield 20, 3), (30, .aload_n 0, 1), (31, .bipush 10, 2), (33, .anewarray 9, 3), (36, .putfield 24, 3), (39, .aload_n 0, 1), (40, .bipush 10, 2), (42, .bipush 12, 2), (44, .multianewarray 27 2, 4), (48, .putfield 29, 3), (51, .aload_n 0, 1), (52, .bipush 10, 2), (54, .bipush 10, 2), (56, .multianewarray 27 2, 4), (60, .putfield 32, 3), (63, .aload_n 0, 1), (64, .iconst 5, 1), (65, .newarray .int, 2), (67, .dup, 1), (68, .iconst 0, 1), (69, .iconst 1, 1), (70, .iastore, 1), (71, .dup, 1), (72, .iconst 1, 1), (73, .iconst 2, 1), (74, .iastore, 1), (75, .dup, 1), (76, .iconst 2, 1), (77, .iconst 5, 1), (78, .iastore, 1), (79, .dup, 1), (80, .iconst 3, 1), (81, .bipush 9, 2), (83, .iastore, 1), (84, .dup, 1), (85, .iconst 4, 1), (86, .bipush 10, 2), (88, .iastore, 1), (89, .putfield 35, 3), (92, .aload_n 0, 1), (93, .bipush 16, 2), (95, .newarray .int, 2), (97, .putfield 38, 3), (100, .aload_n 0, 1), (101, .new 9, 3), (104, .dup, 1), (105, .bipush 12, 2), (107, .invokespecial 41, 3), (110, .putfield 44, 3), (113, .aload_n 0, 1), (114, .new 9, 3), (117, .dup, 1), (118, .bipush 12, 2), (120, .invokespecial 41, 3), (123, .putfield 48, 3), (126, .iconst 0, 1), (127, .istore_n 1, 1), (128, .iload_n 1, 1), (129, .bipush 12, 2), (131, .if_icmp .ge 47, 3), (134, .aload_n 0, 1), (135, .getfield 11, 3), (138, .iload_n 1, 1), (139, .new 9, 3), (142, .dup, 1), (143, .bipush 12, 2), (145, .invokespecial 41, 3), (148, .aastore, 1), (149, .aload_n 0, 1), (150, .getfield 17, 3), (153, .iload_n 1, 1), (154, .new 9, 3), (157, .dup, 1), (158, .bipush 12, 2), (160, .invokespecial 41, 3), (163, .aastore, 1), (164, .aload_n 0, 1), (165, .getfield 20, 3), (168, .iload_n 1, 1), (169, .bipush (-6), 2), (171, .iastore, 1), (172, .iinc 1 1, 3), (175, .goto (-47), 3), (178, .iconst 0, 1), (179, .istore_n 1, 1), (180, .iload_n 1, 1), (181, .bipush 10, 2), (183, .if_icmp .ge 24, 3), (186, .aload_n 0, 1), (187, .getfield 24, 3), (190, .iload_n 1, 1), (191, .new 9, 3), (194, .dup, 1), (195, .bipush 12, 2), (197, .invokespecial 41, 3), (200, .aastore, 1), (201, .iinc 1 1, 3), (204, .goto (-24), 3), (207, .iconst 0, 1), (208, .istore_n 1, 1), (209, .iload_n 1, 1), (210, .bipush 16, 2), (212, .if_icmp .ge 17, 3), (215, .aload_n 0, 1), (216, .getfield 38, 3), (219, .iload_n 1, 1), (220, .bipush (-6), 2), (222, .iastore, 1), (223, .iinc 1 1, 3), (226, .goto (-17), 3), (229, .aload_n 0, 1), (230, .iconst 0, 1), (231, .putfield 51, 3), (234, .aload_n 0, 1), (235, .iconst 0, 1), (236, .putfield 55, 3), (239, .return_, 1)]
  | 3 => [(0, .aload_n 0, 1), (1, .invokespecial 3, 3), (4, .aload_n 0, 1), (5, .bipush 13, 2), (7, .newarray .int, 2), (9, .putfield 9, 3), (12, .return_, 1)]
  | 4 => [(0, .aload_n 0, 1), (1, .invokespecial 3, 3), (4, .aload_n 0, 1), (5, .bipush 10, 2), (7, .newarray .int, 2), (9, .putfield 9, 3), (12, .aload_n 0, 1), (13, .bipush 10, 2), (15, .iconst 5, 1), (16, .multianewarray 15 2, 4), (20, .putfield 17, 3), (23, .aload_n 0, 1), (24, .sipush 1024, 3), (27, .newarray .int, 2), (29, .putfield 20, 3), (32, .aload_n 0, 1), (33, .sipush 1024, 3), (36, .newarray .int, 2), (38, .putfield 23, 3), (41, .aload_n 0, 1), (42, .bipush 10, 2), (44, .newarray .int, 2), (46, .putfield 26, 3), (49, .aload_n 0, 1), (50, .new 29, 3), (53, .dup, 1), (54, .bipush 10, 2), (56, .invokespecial 31, 3), (59, .putfield 34, 3), (62, .return_, 1)]
  | 5 => [(0, .aload_n 0, 1), (1, .invokespecial 3, 3), (4, .aload_n 0, 1), (5, .bipush 13, 2), (7, .bipush 13, 2), (9, .multianewarray 9 2, 4), (13, .putfield 11, 3), (16, .aload_n 0, 1), (17, .bipush 13, 2), (19, .bipush 13, 2), (21, .multianewarray 16 2, 4), (25, .putfield 18, 3), (28, .aload_n 0, 1), (29, .new 21, 3), (32, .dup, 1), (33, .bipush 24, 2), (35, .invokespecial 23, 3), (38, .putfield 26, 3), (41, .return_, 1)]
  | 6 => [(0, .aload_n 0, 1), (1, .invokespecial 1, 3), (4, .aload_n 0, 1), (5, .new 7, 3), (8, .dup, 1), (9, .bipush 30, 2), (11, .invokespecial 11, 3), (14, .putfield 14, 3), (17, .aload_n 0, 1), (18, .new 18, 3), (21, .dup, 1), (22, .invokespecial 20, 3), (25, .putfield 21, 3), (28, .aload_n 0, 1), (29, .iconst 2, 1), (30, .anewarray 18, 3), (33, .putfield 25, 3), (36, .iconst 0, 1), (37, .istore_n 1, 1), (38, .iload_n 1, 1), (39, .iconst 2, 1), (40, .if_icmp .ge 22, 3), (43, .aload_n 0, 1), (44, .getfield 25, 3), (47, .iload_n 1, 1), (48, .new 18, 3), (51, .dup, 1), (52, .invokespecial 20, 3), (55, .aastore, 1), (56, .iinc 1 1, 3), (59, .goto (-21), 3), (62, .aload_n 0, 1), (63, .iconst 2, 1), (64, .newarray .boolean, 2), (66, .putfield 29, 3), (69, .aload_n 0, 1), (70, .new 33, 3), (73, .dup, 1), (74, .invokespecial 35, 3), (77, .putfield 36, 3), (80, .aload_n 0, 1), (81, .new 40, 3), (84, .dup, 1), (85, .invokespecial 42, 3), (88, .putfield 43, 3), (91, .aload_n 0, 1), (92, .new 47, 3), (95, .dup, 1), (96, .invokespecial 49, 3), (99, .putfield 50, 3), (102, .return_, 1)]
  | _ => [(0, .aload_n 0, 1), (1, .invokespecial 1, 3), (4, .aload_n 0, 1), (5, .bipush 30, 2), (7, .newarray .int, 2), (9, .putfield 7, 3), (12, .aload_n 0, 1), (13, .bipush 12, 2), (15, .newarray .int, 2), (17, .putfield 13, 3), (20, .aload_n 0, 1), (21, .bipush 12, 2), (23, .newarray .int, 2), (25, .putfield 16, 3), (28, .aload_n 0, 1), (29, .bipush 12, 2), (31, .newarray .int, 2), (33, .putfield 19, 3), (36, .aload_n 0, 1), (37, .sipush 144, 3), (40, .newarray .int, 2), (42, .putfield 22, 3), (45, .aload_n 0, 1), (46, .sipush 144, 3), (49, .newarray .int, 2), (51, .putfield 25, 3), (54, .aload_n 0, 1), (55, .bipush 10, 2), (57, .newarray .int, 2), (59, .putfield 28, 3), (62, .aload_n 0, 1), (63, .bipush 120, 2), (65, .newarray .int, 2), (67, .putfield 31, 3), (70, .aload_n 0, 1), (71, .iconst 5, 1), (72, .newarray .int, 2), (74, .putfield 34, 3), (77, .aload_n 0, 1), (78, .bipush 16, 2), (80, .newarray .int, 2), (82, .putfield 37, 3), (85, .aload_n 0, 1), (86, .iconst 2, 1), (87, .newarray .int, 2), (89, .putfield 40, 3), (92, .aload_n 0, 1), (93, .bipush 24, 2), (95, .newarray .int, 2), (97, .putfield 43, 3), (100, .aload_n 0, 1), (101, .bipush 13, 2), (103, .newarray .int, 2), (105, .putfield 46, 3), (108, .aload_n 0, 1), (109, .bipush 10, 2), (111, .newarray .int, 2), (113, .putfield 49, 3), (116, .aload_n 0, 1), (117, .bipush 100, 2), (119, .newarray .int, 2), (121, .putfield 52, 3), (124, .aload_n 0, 1), (125, .sipush 1024, 3), (128, .newarray .int, 2), (130, .putfield 55, 3), (133, .aload_n 0, 1), (134, .bipush 10, 2), (136, .newarray .int, 2), (138, .putfield 58, 3), (141, .aload_n 0, 1), (142, .sipush 169, 3), (145, .newarray .int, 2), (147, .putfield 61, 3), (150, .aload_n 0, 1), (151, .sipush 169, 3), (154, .newarray .long, 2), (156, .putfield 64, 3), (159, .aload_n 0, 1), (160, .sipush 1040, 3), (163, .newarray .int, 2), (165, .putfield 68, 3), (168, .aload_n 0, 1), (169, .iconst 2, 1), (170, .newarray .boolean, 2), (172, .putfield 71, 3), (175, .aload_n 0, 1), (176, .getfield 34, 3), (179, .iconst 0, 1), (180, .iconst 1, 1), (181, .iastore, 1), (182, .aload_n 0, 1), (183, .getfield 34, 3), (186, .iconst 1, 1), (187, .iconst 2, 1), (188, .iastore, 1), (189, .aload_n 0, 1), (190, .getfield 34, 3), (193, .iconst 2, 1), (194, .iconst 5, 1), (195, .iastore, 1), (196, .aload_n 0, 1), (197, .getfield 34, 3), (200, .iconst 3, 1), (201, .bipush 9, 2), (203, .iastore, 1), (204, .aload_n 0, 1), (205, .getfield 34, 3), (208, .iconst 4, 1), (209, .bipush 10, 2), (211, .iastore, 1), (212, .iconst 0, 1), (213, .istore_n 1, 1), (214, .iload_n 1, 1), (215, .bipush 16, 2), (217, .if_icmp .ge 17, 3), (220, .aload_n 0, 1), (221, .getfield 37, 3), (224, .iload_n 1, 1), (225, .bipush (-6), 2), (227, .iastore, 1), (228, .iinc 1 1, 3), (231, .goto (-17), 3), (234, .return_, 1)]
set_option maxRecDepth 100000 in
theorem zz_it_all : (List.range 8).all (fun mi => (zz_it mi).all (fun q => decide (decode (zz_cm mi).2.1 q.1 = .ok (q.2.1, q.2.2)))) = true := by decide +kernel
def zz_dc (mi pc : Nat) : Option (Instr × Nat) := (zz_it mi).lookup pc
theorem zz_it_ge {mi : Nat} (h : 7 ≤ mi) : zz_it mi = zz_it 7 := by
  unfold zz_it
  split <;> first | omega | rfl
theorem zz_dc_ok {mi pc n : Nat} {i : Instr} (h : zz_dc mi pc = some (i, n)) : decode (zz_cm mi).2.1 pc = .ok (i, n) := by
  have hm := zz_lookup_mem h
  by_cases h8 : mi < 8
  · exact of_decide_eq_true (List.all_eq_true.mp (List.all_eq_true.mp zz_it_all mi (List.mem_range.mpr h8)) (pc, i, n) hm)
  · rw [zz_it_ge (by omega)] at hm
    rw [(zz_cm_ge (mi := mi) (by omega)).1]
    exact of_decide_eq_true (List.all_eq_true.mp (List.all_eq_true.mp zz_it_all 7 (List.mem_range.mpr (by decide))) (pc, i, n) hm)
def zz_exe (K : zz_Kt) : Nat → Nat → Nat → Nat → List (Option Value) → List Value → List zz_SK → List (List Int32) → Nat → Nat → Option (List zz_SK × List (List Int32) × Nat × Nat)
  | 0, _, _, _, _, _, _, _, _, _ => none
  | f + 1, mi, d, pc, L, S, SH, dt, c, s => match zz_dc mi pc with
    | some (i, n) => match i with
      | .return_ => match S with
        | [] => zz_gd (Nat.beq n 1) (SH, dt, c, s)
        | _ => none
      | .invokespecial idx => match zz_tl zz_so2 (zz_cm mi).2.2.2.2 idx with
        | some 0 => match d, S with
          | d' + 1, .ref _ :: r => match Nat.beq n 3 && Nat.ble ((r.map fun v => v.category).sum) 8 with
            | true => zz_exe K f mi (d' + 1) (pc + 3) L r SH dt c s
            | false => none
          | _, _ => none
        | some (m + 1) => match d, zz_args (m + 1) S with
          | d' + 1, some (as, k, r) => match K (m + 1) d' with
            | some (Xr, dr, cr, sr) => match zz_pc k n (m + 1) r SH Xr dt && Nat.beq (zz_np (m + 1)) 0 with
              | true => zz_exe K f mi (d' + 1) (pc + 3) L r (SH.take k ++ Xr.map (zz_sk k)) (zz_jd k dt dr) (c + cr) (s + sr)
              | false => none
            | none => match Nat.beq n 3 && Nat.ble ((r.map fun v => v.category).sum) 8 with
              | true => match zz_exe K f (m + 1) d' 0 ((Value.ref k :: as).map some ++ List.replicate ((zz_cm (m + 1)).2.2.1 - (Value.ref k :: as).length) none) [] SH dt c s with
                | some (SH1, dt1, c1, s1) => zz_exe K f mi (d' + 1) (pc + 3) L r SH1 dt1 c1 s1
                | none => none
              | false => none
          | _, _ => none
        | none => none
      | i => match zz_cx (zz_cm mi).2.2.2.2 i n pc L S SH dt with
        | some t => zz_exe K f mi d t.1 t.2.1 t.2.2.1 t.2.2.2.1 t.2.2.2.2.1 (c + t.2.2.2.2.2.1) (s + t.2.2.2.2.2.2)
        | none => none
    | none => none
theorem zz_exe_ok {K : zz_Kt} (hKK : ∀ (m d' : Nat) (Xr : List zz_SK) (dr : List (List Int32)) (cr sr : Nat), K m d' = some (Xr, dr, cr, sr) → ∀ sc : Nat × (Nat → Int32), EvM sc d' cr sr (zz_cm m) [.ref 0] ([.inl (zz_cc m, zz_df (zz_cc m))], zz_D [], zJ0) (fun r σ => r = none ∧ σ = (Xr, zz_D dr, zJ0))) : ∀ (f mi d pc : Nat) (L : List (Option Value)) (S : List Value) (SH : List zz_SK) (dt : List (List Int32)) (c s : Nat) (SH' : List zz_SK) (dt' : List (List Int32)) (c' s' : Nat), zz_exe K f mi d pc L S SH dt c s = some (SH', dt', c', s') →
    ∃ mc ms, c' = c + mc ∧ s' = s + ms ∧ ∀ sc : Nat × (Nat → Int32), Ev sc d mc ms (zz_cm mi) pc L S (SH, zz_D dt, zJ0) (fun r σ => r = none ∧ σ = (SH', zz_D dt', zJ0)) := by
  intro f
  induction f with
  | zero => intro mi d pc L S SH dt c s SH' dt' c' s' h; cases h
  | succ f ih =>
    intro mi d pc L S SH dt c s SH' dt' c' s' h
    obtain ⟨q1, q2, q3, q4, q5, q6, q7, q8, q9, q10⟩ := zz_cm_ok mi
    simp only [zz_exe] at h
    split at h
    · next i n hd =>
      replace hd := zz_dc_ok hd
      split at h
      · split at h
        · obtain ⟨h1, h2⟩ := zz_gd_some h
          cases h2
          rw [Nat.eq_of_beq_eq_true h1] at hd
          exact ⟨0, 0, rfl, rfl, fun sc => Ev.vret q1 hd ⟨rfl, rfl⟩⟩
        · cases h
      · next idx =>
        split at h
        · next h0 =>
          split at h
          · next d' k r =>
            split at h
            · next h1 =>
              rw [Bool.and_eq_true] at h1
              rw [Nat.eq_of_beq_eq_true h1.1] at hd
              obtain ⟨mc, ms, e1, e2, hE⟩ := ih _ _ _ _ _ _ _ _ _ _ _ _ _ h
              have hw : Cond.methodLink (zz_cm mi).1.cls idx Lib.objectInit ∈ zz_WG := by
                rw [q8]
                exact of_decide_eq_true (zz_so2_ok h0)
              exact ⟨mc, ms, e1, e2, fun sc => Ev.objInit hd hw (Nat.le_of_ble_eq_true h1.2) (hE sc)⟩
            · cases h
          · cases h
        · next m h0 =>
          split at h
          · next d' as k r ha =>
            obtain ⟨rfl, hn, hcat⟩ := zz_args_ok ha
            obtain ⟨p1, p2, p3, p4, p5, p6, p7, p8, p9, p10⟩ := zz_cm_ok (m + 1)
            have hw := zz_so2_ok h0
            have hw2 : (decide (Cond.methodLink (zz_cn (zz_cm mi).2.2.2.2) idx (zz_cm (m + 1)).1 ∈ zz_WG) || decide (Cond.methodLinkNest (zz_cn (zz_cm mi).2.2.2.2) idx (zz_cm (m + 1)).1 "SaidAlready" ∈ zz_nest)) = true := hw
            rw [Bool.or_eq_true, decide_eq_true_eq, decide_eq_true_eq, ← q8] at hw2
            split at h
            · next Xr dr cr sr hKm =>
              split at h
              · next h1 =>
                rw [Bool.and_eq_true] at h1
                obtain ⟨mc2, ms2, b1, b2, hE2⟩ := ih _ _ _ _ _ _ _ _ _ _ _ _ _ h
                have has : as = [] := List.eq_nil_of_length_eq_zero (hn.trans (Nat.eq_of_beq_eq_true h1.2))
                subst has
                have h3 := h1.1
                unfold zz_pc at h3
                simp only [Bool.and_eq_true] at h3
                rw [Nat.eq_of_beq_eq_true h3.1] at hd
                refine ⟨cr + mc2, sr + ms2, by omega, by omega, fun sc => ?_⟩
                have hM := zz_prim (dr := dr) h1.1 (hKK _ _ _ _ _ _ hKm sc)
                rcases hw2 with hw2 | hw2
                · refine Ev.callI (zz_cm (m + 1)) [] r _ p1 p2 p3 hw2 p4 p5 p6 p7 hd hn (Nat.le_of_ble_eq_true h3.2.1) hM ?_
                  rintro _ _ ⟨rfl, rfl⟩
                  exact hE2 sc
                · refine Ev.callIN (zz_cm (m + 1)) [] r _ p1 p2 p3 hw2 p4 p5 p6 p7 hd hn (Nat.le_of_ble_eq_true h3.2.1) hM ?_
                  rintro _ _ ⟨rfl, rfl⟩
                  exact hE2 sc
              · cases h
            · split at h
              · next h1 =>
                rw [Bool.and_eq_true] at h1
                rw [Nat.eq_of_beq_eq_true h1.1] at hd
                split at h
                · next SH1 dt1 c1 s1 hc =>
                  obtain ⟨mc1, ms1, a1, a2, hE1⟩ := ih _ _ _ _ _ _ _ _ _ _ _ _ _ hc
                  obtain ⟨mc2, ms2, b1, b2, hE2⟩ := ih _ _ _ _ _ _ _ _ _ _ _ _ _ h
                  refine ⟨mc1 + mc2, ms1 + ms2, by omega, by omega, fun sc => ?_⟩
                  have hM : EvM sc d' mc1 ms1 (zz_cm (m + 1)) (.ref k :: as) (SH, zz_D dt, zJ0) (fun r σ => r = none ∧ σ = (SH1, zz_D dt1, zJ0)) := by
                    refine EvM.of p9 ?_ ?_ (hE1 sc)
                    · rw [List.all_cons, hcat]; rfl
                    · rw [List.length_cons, hn]
                      have h8 : zz_np (m + 1) ≤ 1 := by unfold zz_np; split <;> omega
                      omega
                  rcases hw2 with hw2 | hw2
                  · refine Ev.callI (zz_cm (m + 1)) as r _ p1 p2 p3 hw2 p4 p5 p6 p7 hd hn (Nat.le_of_ble_eq_true h1.2) hM ?_
                    rintro _ _ ⟨rfl, rfl⟩
                    exact hE2 sc
                  · refine Ev.callIN (zz_cm (m + 1)) as r _ p1 p2 p3 hw2 p4 p5 p6 p7 hd hn (Nat.le_of_ble_eq_true h1.2) hM ?_
                    rintro _ _ ⟨rfl, rfl⟩
                    exact hE2 sc
                · cases h
              · cases h
          · cases h
        · cases h
      · split at h
        · next t ht =>
          obtain ⟨mc, ms, e1, e2, hE⟩ := ih _ _ _ _ _ _ _ _ _ _ _ _ _ h
          refine ⟨t.2.2.2.2.2.1 + mc, t.2.2.2.2.2.2 + ms, by omega, by omega, fun sc => zz_cx_ok hd ht (hE sc)⟩
        · cases h
    · cases h
