/-! ===== a constructor's run ===== -/
def zz_args (m : Nat) (S : List Value) : Option (List Value × Nat × List Value) := match m with
  | 1 => match S with
    | .int x :: .ref k :: r => some ([.int x], k, r)
    | _ => none
  | _ => match S with
    | .ref k :: r => some ([], k, r)
    | _ => none
theorem zz_args_ok {m : Nat} {S as r : List Value} {k : Nat} (h : zz_args m S = some (as, k, r)) : S = as.reverse ++ .ref k :: r ∧ as.length = zz_np m ∧ (as.all (fun v => v.category == 1)) = true := by
  unfold zz_args at h
  split at h
  · split at h
    · cases h; exact ⟨rfl, rfl, rfl⟩
    · cases h
  · next hm =>
    split at h
    · cases h; exact ⟨rfl, (if_neg hm).symm, rfl⟩
    · cases h
def zz_exe : Nat → Nat → Nat → Nat → List (Option Value) → List Value → List zz_SK → List (List Int32) → Nat → Nat → Option (List zz_SK × List (List Int32) × Nat × Nat)
  | 0, _, _, _, _, _, _, _, _, _ => none
  | f + 1, mi, d, pc, L, S, SH, dt, c, s => match decode (zz_cm mi).2.1 pc with
    | .ok (i, n) => match i with
      | .return_ => match S with
        | [] => zz_gd (Nat.beq n 1) (SH, dt, c, s)
        | _ => none
      | .invokespecial idx => match zz_tl zz_so2 (zz_cm mi).2.2.2.2 idx with
        | some 0 => match d, S with
          | d' + 1, .ref _ :: r => match Nat.beq n 3 && Nat.ble ((r.map fun v => v.category).sum) 8 with
            | true => zz_exe f mi (d' + 1) (pc + 3) L r SH dt c s
            | false => none
          | _, _ => none
        | some (m + 1) => match d, zz_args (m + 1) S with
          | d' + 1, some (as, k, r) => match Nat.beq n 3 && Nat.ble ((r.map fun v => v.category).sum) 8 with
            | true => match zz_exe f (m + 1) d' 0 ((Value.ref k :: as).map some ++ List.replicate ((zz_cm (m + 1)).2.2.1 - (Value.ref k :: as).length) none) [] SH dt c s with
              | some (SH1, dt1, c1, s1) => zz_exe f mi (d' + 1) (pc + 3) L r SH1 dt1 c1 s1
              | none => none
            | false => none
          | _, _ => none
        | none => none
      | i => match zz_cx (zz_cm mi).2.2.2.2 i n pc L S SH dt with
        | some t => zz_exe f mi d t.1 t.2.1 t.2.2.1 t.2.2.2.1 t.2.2.2.2.1 (c + t.2.2.2.2.2.1) (s + t.2.2.2.2.2.2)
        | none => none
    | .error _ => none
theorem zz_exe_ok : ∀ (f mi d pc : Nat) (L : List (Option Value)) (S : List Value) (SH : List zz_SK) (dt : List (List Int32)) (c s : Nat) (SH' : List zz_SK) (dt' : List (List Int32)) (c' s' : Nat), zz_exe f mi d pc L S SH dt c s = some (SH', dt', c', s') →
    ∃ mc ms, c' = c + mc ∧ s' = s + ms ∧ ∀ sc : Nat × (Nat → Int32), Ev sc d mc ms (zz_cm mi) pc L S (SH, zz_D dt, zJ0) (fun r σ => r = none ∧ σ = (SH', zz_D dt', zJ0)) := by
  intro f
  induction f with
  | zero => intro mi d pc L S SH dt c s SH' dt' c' s' h; cases h
  | succ f ih =>
    intro mi d pc L S SH dt c s SH' dt' c' s' h
    obtain ⟨q1, q2, q3, q4, q5, q6, q7, q8, q9, q10⟩ := zz_cm_ok mi
    simp only [zz_exe] at h
    split at h
    · next i n hd =>
      split at h
      · split at h
        · obtain ⟨h1, h2⟩ := zz_gd_some h
          cases h2
          rw [Nat.eq_of_beq_eq_true h1] at hd
          exact ⟨0, 0, rfl, rfl, fun sc => Ev.vret q1 hd ⟨rfl, rfl⟩⟩
        · cases h
      · next idx =>
        split at h
        · next h0 =>
          split at h
          · next d' k r =>
            split at h
            · next h1 =>
              rw [Bool.and_eq_true] at h1
              rw [Nat.eq_of_beq_eq_true h1.1] at hd
              obtain ⟨mc, ms, e1, e2, hE⟩ := ih _ _ _ _ _ _ _ _ _ _ _ _ _ h
              have hw : Cond.methodLink (zz_cm mi).1.cls idx Lib.objectInit ∈ zz_WG := by
                rw [q8]
                exact of_decide_eq_true (zz_so2_ok h0)
              exact ⟨mc, ms, e1, e2, fun sc => Ev.objInit hd hw (Nat.le_of_ble_eq_true h1.2) (hE sc)⟩
            · cases h
          · cases h
        · next m h0 =>
          split at h
          · next d' as k r ha =>
            split at h
            · next h1 =>
              rw [Bool.and_eq_true] at h1
              rw [Nat.eq_of_beq_eq_true h1.1] at hd
              split at h
              · next SH1 dt1 c1 s1 hc =>
                obtain ⟨mc1, ms1, a1, a2, hE1⟩ := ih _ _ _ _ _ _ _ _ _ _ _ _ _ hc
                obtain ⟨mc2, ms2, b1, b2, hE2⟩ := ih _ _ _ _ _ _ _ _ _ _ _ _ _ h
                obtain ⟨rfl, hn, hcat⟩ := zz_args_ok ha
                obtain ⟨p1, p2, p3, p4, p5, p6, p7, p8, p9, p10⟩ := zz_cm_ok (m + 1)
                refine ⟨mc1 + mc2, ms1 + ms2, by omega, by omega, fun sc => ?_⟩
                have hM : EvM sc d' mc1 ms1 (zz_cm (m + 1)) (.ref k :: as) (SH, zz_D dt, zJ0) (fun r σ => r = none ∧ σ = (SH1, zz_D dt1, zJ0)) := by
                  refine EvM.of p9 ?_ ?_ (hE1 sc)
                  · rw [List.all_cons, hcat]; rfl
                  · rw [List.length_cons, hn]
                    have h8 : zz_np (m + 1) ≤ 1 := by unfold zz_np; split <;> omega
                    omega
                have hw := zz_so2_ok h0
                have hw2 : (decide (Cond.methodLink (zz_cn (zz_cm mi).2.2.2.2) idx (zz_cm (m + 1)).1 ∈ zz_WG) || decide (Cond.methodLinkNest (zz_cn (zz_cm mi).2.2.2.2) idx (zz_cm (m + 1)).1 "SaidAlready" ∈ zz_nest)) = true := hw
                rw [Bool.or_eq_true, decide_eq_true_eq, decide_eq_true_eq, ← q8] at hw2
                rcases hw2 with hw2 | hw2
                · refine Ev.callI (zz_cm (m + 1)) as r _ p1 p2 p3 hw2 p4 p5 p6 p7 hd hn (Nat.le_of_ble_eq_true h1.2) hM ?_
                  rintro _ _ ⟨rfl, rfl⟩
                  exact hE2 sc
                · refine Ev.callIN (zz_cm (m + 1)) as r _ p1 p2 p3 hw2 p4 p5 p6 p7 hd hn (Nat.le_of_ble_eq_true h1.2) hM ?_
                  rintro _ _ ⟨rfl, rfl⟩
                  exact hE2 sc
              · cases h
            · cases h
          · cases h
        · cases h
      · split at h
        · next t ht =>
          obtain ⟨mc, ms, e1, e2, hE⟩ := ih _ _ _ _ _ _ _ _ _ _ _ _ _ h
          refine ⟨t.2.2.2.2.2.1 + mc, t.2.2.2.2.2.2 + ms, by omega, by omega, fun sc => zz_cx_ok hd ht (hE sc)⟩
        · cases h
    · cases h
