/-! ===== a constructor's run ===== -/
abbrev zz_Kt : Type := Nat → Nat → Option (List zz_SK × List (List Int32) × Nat × Nat)
def zz_cc (mi : Nat) : Nat := match mi with
  | 1 => 4
  | 2 => 2
  | 3 => 1
  | 4 => 3
  | 5 => 0
  | 6 => 5
  | _ => 6
def zz_jd (k : Nat) (dt dr : List (List Int32)) : List (List Int32) := dt ++ (List.replicate (k - dt.length) [] ++ dr)
theorem zz_jd_ok {k : Nat} {dt dr : List (List Int32)} (h : dt.length ≤ k) : zz_D (zz_jd k dt dr) = zz_jn k (zz_D dt) (zz_D dr) := by
  funext c j
  show ((zz_jd k dt dr).getD c []).getD j 0 = _
  unfold zz_jd zz_jn
  rw [List.getD_eq_getElem?_getD (l := dt ++ _)]
  by_cases h1 : c < k
  · rw [if_pos h1]
    show _ = (dt.getD c []).getD j 0
    rw [List.getD_eq_getElem?_getD (l := dt)]
    by_cases h2 : c < dt.length
    · rw [List.getElem?_append_left h2]
    · rw [List.getElem?_append_right (by omega), List.getElem?_append_left (by simp; omega), List.getElem?_replicate, if_pos (by omega), List.getElem?_eq_none (l := dt) (by omega)]
      rfl
  · rw [if_neg h1, List.getElem?_append_right (by omega), List.getElem?_append_right (by simp; omega)]
    show _ = (dr.getD (c - k) []).getD j 0
    rw [List.getD_eq_getElem?_getD (l := dr), List.length_replicate, show c - dt.length - (k - dt.length) = c - k by omega]
theorem zz_jn_id {k : Nat} {dt : List (List Int32)} (h : dt.length ≤ k) : zz_D dt = zz_jn k (zz_D dt) (zz_D []) := by
  have e := zz_jd_ok (dr := []) h
  rw [← e]
  funext c j
  show (dt.getD c []).getD j 0 = ((zz_jd k dt []).getD c []).getD j 0
  unfold zz_jd
  rw [List.getD_eq_getElem?_getD (l := dt), List.getD_eq_getElem?_getD (l := dt ++ _), List.append_nil]
  by_cases h2 : c < dt.length
  · rw [List.getElem?_append_left h2]
  · rw [List.getElem?_append_right (by omega), List.getElem?_eq_none (by omega), List.getElem?_replicate]
    split <;> rfl
theorem zJ0_jn (k : Nat) : zJ0 = zz_jn k zJ0 zJ0 := by
  funext c j
  unfold zz_jn
  split <;> rfl
theorem zz_df_sk (k ci : Nat) : zz_sk k (.inl (ci, zz_df ci)) = .inl (ci, zz_df ci) := by
  show Sum.inl (ci, (zz_df ci).map _) = Sum.inl (ci, zz_df ci)
  unfold zz_df
  rw [List.map_map]
  congr 2
  apply List.map_congr_left
  intro j _
  show Option.map _ (if _ then none else some none) = _
  split <;> rfl
theorem zz_df_sml (ci : Nat) : zz_sml (.inl (ci, zz_df ci)) = true := by
  show (zz_df ci).all zz_o2 = true
  rw [List.all_eq_true]
  intro y hy
  unfold zz_df at hy
  obtain ⟨j, -, rfl⟩ := List.mem_map.mp hy
  split <;> rfl
def zz_pc (k n m : Nat) (r : List Value) (SH Xr : List zz_SK) (dt : List (List Int32)) : Bool := Nat.beq n 3 && (Nat.ble ((r.map fun v => v.category).sum) 8 && (Nat.blt k 1000 && (Nat.beq SH.length (k + 1) && (decide (SH.drop k = [.inl (zz_cc m, zz_df (zz_cc m))]) && (Nat.ble dt.length k && (Xr.all zz_sml && Nat.blt Xr.length 1000))))))
theorem zz_prim {sc : Nat × (Nat → Int32)} {d cr sr k n m : Nat} {M : zz_MD} {r : List Value} {SH Xr : List zz_SK} {dt dr : List (List Int32)} (h : zz_pc k n m r SH Xr dt = true) (hE : EvM sc d cr sr M [.ref 0] ([.inl (zz_cc m, zz_df (zz_cc m))], zz_D [], zJ0) (fun r σ => r = none ∧ σ = (Xr, zz_D dr, zJ0))) :
    EvM sc d cr sr M [.ref k] (SH, zz_D dt, zJ0) (fun r σ => r = none ∧ σ = (SH.take k ++ Xr.map (zz_sk k), zz_D (zz_jd k dt dr), zJ0)) := by
  unfold zz_pc at h
  simp only [Bool.and_eq_true, decide_eq_true_eq] at h
  obtain ⟨-, -, h3, h4, h5, h6, h7, h8⟩ := h
  have h3 := Nat.le_of_ble_eq_true h3
  have h4 := Nat.eq_of_beq_eq_true h4
  have h6 := Nat.le_of_ble_eq_true h6
  have h8 := Nat.le_of_ble_eq_true h8
  have hs := EvM.shift (P := SH.take k) (I := zz_D dt) (J := zJ0) (k := k) h3 (by rw [List.length_take]; omega) (fun x hx => by rw [List.mem_singleton.mp hx]; exact zz_df_sml _) (fun x hx => List.all_eq_true.mp h7 x hx) h8 hE
  rw [List.map_singleton, zz_df_sk, ← h5, List.take_append_drop, ← zz_jn_id h6, ← zJ0_jn, ← zz_jd_ok h6] at hs
  exact hs
def zz_args (m : Nat) (S : List Value) : Option (List Value × Nat × List Value) := match m with
  | 1 => match S with
    | .int x :: .ref k :: r => some ([.int x], k, r)
    | _ => none
  | _ => match S with
    | .ref k :: r => some ([], k, r)
    | _ => none
theorem zz_args_ok {m : Nat} {S as r : List Value} {k : Nat} (h : zz_args m S = some (as, k, r)) : S = as.reverse ++ .ref k :: r ∧ as.length = zz_np m ∧ (as.all (fun v => v.category == 1)) = true := by
  unfold zz_args at h
  split at h
  · split at h
    · cases h; exact ⟨rfl, rfl, rfl⟩
    · cases h
  · next hm =>
    split at h
    · cases h; exact ⟨rfl, (if_neg hm).symm, rfl⟩
    · cases h
def zz_exe (K : zz_Kt) : Nat → Nat → Nat → Nat → List (Option Value) → List Value → List zz_SK → List (List Int32) → Nat → Nat → Option (List zz_SK × List (List Int32) × Nat × Nat)
  | 0, _, _, _, _, _, _, _, _, _ => none
  | f + 1, mi, d, pc, L, S, SH, dt, c, s => match decode (zz_cm mi).2.1 pc with
    | .ok (i, n) => match i with
      | .return_ => match S with
        | [] => zz_gd (Nat.beq n 1) (SH, dt, c, s)
        | _ => none
      | .invokespecial idx => match zz_tl zz_so2 (zz_cm mi).2.2.2.2 idx with
        | some 0 => match d, S with
          | d' + 1, .ref _ :: r => match Nat.beq n 3 && Nat.ble ((r.map fun v => v.category).sum) 8 with
            | true => zz_exe K f mi (d' + 1) (pc + 3) L r SH dt c s
            | false => none
          | _, _ => none
        | some (m + 1) => match d, zz_args (m + 1) S with
          | d' + 1, some (as, k, r) => match K (m + 1) d' with
            | some (Xr, dr, cr, sr) => match zz_pc k n (m + 1) r SH Xr dt && Nat.beq (zz_np (m + 1)) 0 with
              | true => zz_exe K f mi (d' + 1) (pc + 3) L r (SH.take k ++ Xr.map (zz_sk k)) (zz_jd k dt dr) (c + cr) (s + sr)
              | false => none
            | none => match Nat.beq n 3 && Nat.ble ((r.map fun v => v.category).sum) 8 with
              | true => match zz_exe K f (m + 1) d' 0 ((Value.ref k :: as).map some ++ List.replicate ((zz_cm (m + 1)).2.2.1 - (Value.ref k :: as).length) none) [] SH dt c s with
                | some (SH1, dt1, c1, s1) => zz_exe K f mi (d' + 1) (pc + 3) L r SH1 dt1 c1 s1
                | none => none
              | false => none
          | _, _ => none
        | none => none
      | i => match zz_cx (zz_cm mi).2.2.2.2 i n pc L S SH dt with
        | some t => zz_exe K f mi d t.1 t.2.1 t.2.2.1 t.2.2.2.1 t.2.2.2.2.1 (c + t.2.2.2.2.2.1) (s + t.2.2.2.2.2.2)
        | none => none
    | .error _ => none
theorem zz_exe_ok {K : zz_Kt} (hKK : ∀ (m d' : Nat) (Xr : List zz_SK) (dr : List (List Int32)) (cr sr : Nat), K m d' = some (Xr, dr, cr, sr) → ∀ sc : Nat × (Nat → Int32), EvM sc d' cr sr (zz_cm m) [.ref 0] ([.inl (zz_cc m, zz_df (zz_cc m))], zz_D [], zJ0) (fun r σ => r = none ∧ σ = (Xr, zz_D dr, zJ0))) : ∀ (f mi d pc : Nat) (L : List (Option Value)) (S : List Value) (SH : List zz_SK) (dt : List (List Int32)) (c s : Nat) (SH' : List zz_SK) (dt' : List (List Int32)) (c' s' : Nat), zz_exe K f mi d pc L S SH dt c s = some (SH', dt', c', s') →
    ∃ mc ms, c' = c + mc ∧ s' = s + ms ∧ ∀ sc : Nat × (Nat → Int32), Ev sc d mc ms (zz_cm mi) pc L S (SH, zz_D dt, zJ0) (fun r σ => r = none ∧ σ = (SH', zz_D dt', zJ0)) := by
  intro f
  induction f with
  | zero => intro mi d pc L S SH dt c s SH' dt' c' s' h; cases h
  | succ f ih =>
    intro mi d pc L S SH dt c s SH' dt' c' s' h
    obtain ⟨q1, q2, q3, q4, q5, q6, q7, q8, q9, q10⟩ := zz_cm_ok mi
    simp only [zz_exe] at h
    split at h
    · next i n hd =>
      split at h
      · split at h
        · obtain ⟨h1, h2⟩ := zz_gd_some h
          cases h2
          rw [Nat.eq_of_beq_eq_true h1] at hd
          exact ⟨0, 0, rfl, rfl, fun sc => Ev.vret q1 hd ⟨rfl, rfl⟩⟩
        · cases h
      · next idx =>
        split at h
        · next h0 =>
          split at h
          · next d' k r =>
            split at h
            · next h1 =>
              rw [Bool.and_eq_true] at h1
              rw [Nat.eq_of_beq_eq_true h1.1] at hd
              obtain ⟨mc, ms, e1, e2, hE⟩ := ih _ _ _ _ _ _ _ _ _ _ _ _ _ h
              have hw : Cond.methodLink (zz_cm mi).1.cls idx Lib.objectInit ∈ zz_WG := by
                rw [q8]
                exact of_decide_eq_true (zz_so2_ok h0)
              exact ⟨mc, ms, e1, e2, fun sc => Ev.objInit hd hw (Nat.le_of_ble_eq_true h1.2) (hE sc)⟩
            · cases h
          · cases h
        · next m h0 =>
          split at h
          · next d' as k r ha =>
            obtain ⟨rfl, hn, hcat⟩ := zz_args_ok ha
            obtain ⟨p1, p2, p3, p4, p5, p6, p7, p8, p9, p10⟩ := zz_cm_ok (m + 1)
            have hw := zz_so2_ok h0
            have hw2 : (decide (Cond.methodLink (zz_cn (zz_cm mi).2.2.2.2) idx (zz_cm (m + 1)).1 ∈ zz_WG) || decide (Cond.methodLinkNest (zz_cn (zz_cm mi).2.2.2.2) idx (zz_cm (m + 1)).1 "SaidAlready" ∈ zz_nest)) = true := hw
            rw [Bool.or_eq_true, decide_eq_true_eq, decide_eq_true_eq, ← q8] at hw2
            split at h
            · next Xr dr cr sr hKm =>
              split at h
              · next h1 =>
                rw [Bool.and_eq_true] at h1
                obtain ⟨mc2, ms2, b1, b2, hE2⟩ := ih _ _ _ _ _ _ _ _ _ _ _ _ _ h
                have has : as = [] := List.eq_nil_of_length_eq_zero (hn.trans (Nat.eq_of_beq_eq_true h1.2))
                subst has
                have h3 := h1.1
                unfold zz_pc at h3
                simp only [Bool.and_eq_true] at h3
                rw [Nat.eq_of_beq_eq_true h3.1] at hd
                refine ⟨cr + mc2, sr + ms2, by omega, by omega, fun sc => ?_⟩
                have hM := zz_prim (dr := dr) h1.1 (hKK _ _ _ _ _ _ hKm sc)
                rcases hw2 with hw2 | hw2
                · refine Ev.callI (zz_cm (m + 1)) [] r _ p1 p2 p3 hw2 p4 p5 p6 p7 hd hn (Nat.le_of_ble_eq_true h3.2.1) hM ?_
                  rintro _ _ ⟨rfl, rfl⟩
                  exact hE2 sc
                · refine Ev.callIN (zz_cm (m + 1)) [] r _ p1 p2 p3 hw2 p4 p5 p6 p7 hd hn (Nat.le_of_ble_eq_true h3.2.1) hM ?_
                  rintro _ _ ⟨rfl, rfl⟩
                  exact hE2 sc
              · cases h
            · split at h
              · next h1 =>
                rw [Bool.and_eq_true] at h1
                rw [Nat.eq_of_beq_eq_true h1.1] at hd
                split at h
                · next SH1 dt1 c1 s1 hc =>
                  obtain ⟨mc1, ms1, a1, a2, hE1⟩ := ih _ _ _ _ _ _ _ _ _ _ _ _ _ hc
                  obtain ⟨mc2, ms2, b1, b2, hE2⟩ := ih _ _ _ _ _ _ _ _ _ _ _ _ _ h
                  refine ⟨mc1 + mc2, ms1 + ms2, by omega, by omega, fun sc => ?_⟩
                  have hM : EvM sc d' mc1 ms1 (zz_cm (m + 1)) (.ref k :: as) (SH, zz_D dt, zJ0) (fun r σ => r = none ∧ σ = (SH1, zz_D dt1, zJ0)) := by
                    refine EvM.of p9 ?_ ?_ (hE1 sc)
                    · rw [List.all_cons, hcat]; rfl
                    · rw [List.length_cons, hn]
                      have h8 : zz_np (m + 1) ≤ 1 := by unfold zz_np; split <;> omega
                      omega
                  rcases hw2 with hw2 | hw2
                  · refine Ev.callI (zz_cm (m + 1)) as r _ p1 p2 p3 hw2 p4 p5 p6 p7 hd hn (Nat.le_of_ble_eq_true h1.2) hM ?_
                    rintro _ _ ⟨rfl, rfl⟩
                    exact hE2 sc
                  · refine Ev.callIN (zz_cm (m + 1)) as r _ p1 p2 p3 hw2 p4 p5 p6 p7 hd hn (Nat.le_of_ble_eq_true h1.2) hM ?_
                    rintro _ _ ⟨rfl, rfl⟩
                    exact hE2 sc
                · cases h
              · cases h
          · cases h
        · cases h
      · split at h
        · next t ht =>
          obtain ⟨mc, ms, e1, e2, hE⟩ := ih _ _ _ _ _ _ _ _ _ _ _ _ _ h
          refine ⟨t.2.2.2.2.2.1 + mc, t.2.2.2.2.2.2 + ms, by omega, by omega, fun sc => zz_cx_ok hd ht (hE sc)⟩
        · cases h
    · cases h
