theorem zz_w_math : Cond.initialized "java/lang/Math" ∈ zz_WG := by decide +kernel
theorem zz_w_mmin : Cond.static Lib.Math.min.name ∈ zz_WG ∧ Cond.code Lib.Math.min.name Lib.Math.min.code 2 (some .int) ∈ zz_WG := by decide +kernel
theorem zz_w_mmax : Cond.static Lib.Math.max.name ∈ zz_WG ∧ Cond.code Lib.Math.max.name Lib.Math.max.code 2 (some .int) ∈ zz_WG := by decide +kernel
theorem zz_w_mabs : Cond.static Lib.Math.abs.name ∈ zz_WG ∧ Cond.code Lib.Math.abs.name Lib.Math.abs.code 1 (some .int) ∈ zz_WG := by decide +kernel
theorem zz_ld_pc {pc n t i pc' : Nat} {L L' : List (Option Value)} {S S' : List Value} (h : zz_ld pc n L S t i = some (pc', L', S')) : pc' = pc + n := by
  unfold zz_ld at h
  split at h <;> cases h <;> rfl
theorem zz_so_pc {pc n t i pc' : Nat} {L L' : List (Option Value)} {S S' : List Value} (h : zz_so pc n L S t i = some (pc', L', S')) : pc' = pc + n := by
  unfold zz_so at h
  split at h
  · cases h
  · split at h
    · cases h; rfl
    · cases h; rfl
    · split at h <;> cases h; rfl
    · cases h
theorem zz_b2_pc {pc n pc' : Nat} {f : Int32 → Int32 → Int32} {L L' : List (Option Value)} {S S' : List Value} (h : zz_b2 pc n L S f = some (pc', L', S')) : pc' = pc + n := by
  unfold zz_b2 at h
  split at h <;> cases h; rfl
theorem zz_step_pc {i : Instr} {n pc pc' : Nat} {L L' : List (Option Value)} {S S' : List Value} (h : zz_step i n pc L S = some (pc', L', S')) : pc' = pc + n := by
  cases i <;> simp only [zz_step, zz_psh] at h
  all_goals (first | (cases h; done) | (exact zz_ld_pc h) | (exact zz_so_pc h) | (exact zz_b2_pc h) | (cases h; rfl) | (split at h <;> first | (cases h; done) | (cases h; rfl)))
/-! ===== the other instructions ===== -/
section ZZO
variable {sc : Nat × (Nat → Int32)} {d mc ms : Nat} {M : zz_MD} {pc : Nat} {L : List (Option Value)} {S : List Value} {σ : zz_St} {Q : Option Value → zz_St → Prop}
theorem zz_exA (b : Nat) (ex : Nat → Nat) (i : Nat) : zz_ad b ex (100000 + i) = ex i := by
  unfold zz_ad
  rw [if_neg (by omega), Nat.add_sub_cancel_left]
theorem Ev.xld {i0 : Nat} {i : Int32} (hd : decode M.2.1 pc = .ok (.iaload, 1)) (h4 : i0 < 4) (hin : vp_in i (zz_xs sc i0).1)
    (kk : Ev sc d mc ms M (pc + 1) L (.int ((zz_xs sc i0).2 i.toNatClampNeg) :: S) σ Q) : Ev sc d mc ms M pc L (.int i :: .ref (100000 + i0) :: S) σ Q := by
  intro p l e R s m args below meth c D cA b ex H locs cells slots Qt ls hC hR hL hf1 hlo hce hsl hret
  have K := kk p l e R s m args below meth c D cA b ex H locs cells slots Qt ls hC hR hL hf1 hlo hce hsl hret
  obtain ⟨hx, hb, hml, hown, hts, hK, hX, hbl, hnm⟩ := hC
  show W p l e R s m args below meth c H locs cells slots Qt (F0 m pc ls (.int i :: .ref (zz_ad b ex (100000 + i0)) :: S.map (zz_tr b ex)))
  rw [zz_exA]
  exact va_sld hx hb (hX.1 i0 h4).2 (Nat.lt_of_lt_of_le (hX.1 i0 h4).1 hbl) (Nat.not_le.mpr (hX.1 i0 h4).1) hR.2.2.2 hin hd K
theorem Ev.xlen {i0 : Nat} (hd : decode M.2.1 pc = .ok (.arraylength, 1)) (h4 : i0 < 4)
    (kk : Ev sc d mc ms M (pc + 1) L (.int (Int32.ofNat (zz_xs sc i0).1) :: S) σ Q) : Ev sc d mc ms M pc L (.ref (100000 + i0) :: S) σ Q := by
  intro p l e R s m args below meth c D cA b ex H locs cells slots Qt ls hC hR hL hf1 hlo hce hsl hret
  have K := kk p l e R s m args below meth c D cA b ex H locs cells slots Qt ls hC hR hL hf1 hlo hce hsl hret
  obtain ⟨hx, hb, hml, hown, hts, hK, hX, hbl, hnm⟩ := hC
  show W p l e R s m args below meth c H locs cells slots Qt (F0 m pc ls (.ref (zz_ad b ex (100000 + i0)) :: S.map (zz_tr b ex)))
  rw [zz_exA]
  exact va_slen hx hb (hX.1 i0 h4).2 (Nat.lt_of_lt_of_le (hX.1 i0 h4).1 hbl) (Nat.not_le.mpr (hX.1 i0 h4).1) hR.2.2.2 hd K
theorem Ev.alen {k n : Nat} {rs : List (Option Nat)} {v : Int32} (hd : decode M.2.1 pc = .ok (.arraylength, 1)) (hk : σ.1[k]? = some (.inr (0, n, rs))) (hv : Int32.ofNat n = v)
    (kk : Ev sc d mc ms M (pc + 1) L (.int v :: S) σ Q) : Ev sc d mc ms M pc L (.ref k :: S) σ Q := by
  intro p l e R s m args below meth c D cA b ex H locs cells slots Qt ls hC hR hL hf1 hlo hce hsl hret
  have K := kk p l e R s m args below meth c D cA b ex H locs cells slots Qt ls hC hR hL hf1 hlo hce hsl hret
  obtain ⟨hx, hb, hml, hown, hts, hK, hX, hbl, hnm⟩ := hC
  have hk9 : k < σ.1.length := (List.getElem?_eq_some_iff.mp hk).1
  have hadr : zz_ad b ex k = b + k := if_pos (Nat.lt_trans hk9 hR.2.1)
  show W p l e R s m args below meth c H locs cells slots Qt (F0 m pc ls (.ref (zz_ad b ex k) :: S.map (zz_tr b ex)))
  rw [hadr]
  exact va_alen hx hb hK.1 hR.2.2.1 k 0 (zz_ws_get hk) rfl hv hd K
theorem Ev.gets {i0 idx : Nat} (hd : decode M.2.1 pc = .ok (.getstatic idx, 3)) (h1 : 1 ≤ i0) (h4 : i0 < 4) (hlk : Cond.fieldLink M.1.cls idx RX0 (zz_sn i0) "[I" ∈ zz_WG)
    (kk : Ev sc d mc ms M (pc + 3) L (.ref (100000 + i0) :: S) σ Q) : Ev sc d mc ms M pc L S σ Q := by
  intro p l e R s m args below meth c D cA b ex H locs cells slots Qt ls hC hR hL hf1 hlo hce hsl hret
  have K := kk p l e R s m args below meth c D cA b ex H locs cells slots Qt ls hC hR hL hf1 hlo hce hsl hret
  obtain ⟨hx, hb, hml, hown, hts, hK, hX, hbl, hnm⟩ := hC
  have K2 : W p l e R s m args below meth c H locs cells slots Qt (F0 m (pc + 3) ls (.ref (ex i0) :: S.map (zz_tr b ex))) := by
    rw [← zz_exA b ex i0]; exact K
  exact va_gets hx hb (hX.2 i0 h1 h4) hR.2.2.2 hown (hts _ hlk) (fun _ h => h) hd K2
theorem Ev.ldc {idx : Nat} {v : Int32} (hd : decode M.2.1 pc = .ok (.ldc idx, 2)) (hw : Cond.constant M.1.cls idx v ∈ zz_WG)
    (kk : Ev sc d mc ms M (pc + 2) L (.int v :: S) σ Q) : Ev sc d mc ms M pc L S σ Q := by
  intro p l e R s m args below meth c D cA b ex H locs cells slots Qt ls hC hR hL hf1 hlo hce hsl hret
  have K := kk p l e R s m args below meth c D cA b ex H locs cells slots Qt ls hC hR hL hf1 hlo hce hsl hret
  obtain ⟨hx, hb, hml, hown, hts, hK, hX, hbl, hnm⟩ := hC
  exact lv_ldc hx hb hown (hts _ hw) hd K
theorem Ev.ldc2 {idx : Nat} {v : Int64} (hd : decode M.2.1 pc = .ok (.ldc2_w idx, 3)) (hw : Cond.constantLong M.1.cls idx v ∈ zz_WG)
    (kk : Ev sc d mc ms M (pc + 3) L (.long v :: S) σ Q) : Ev sc d mc ms M pc L S σ Q := by
  intro p l e R s m args below meth c D cA b ex H locs cells slots Qt ls hC hR hL hf1 hlo hce hsl hret
  have K := kk p l e R s m args below meth c D cA b ex H locs cells slots Qt ls hC hR hL hf1 hlo hce hsl hret
  obtain ⟨hx, hb, hml, hown, hts, hK, hX, hbl, hnm⟩ := hC
  exact lv_ldc2 hx hb hown (hts _ hw) hd K
theorem Ev.idiv {x y : Int32} (hd : decode M.2.1 pc = .ok (.idiv, 1)) (hne : ¬ y = 0)
    (kk : Ev sc d mc ms M (pc + 1) L (.int (x / y) :: S) σ Q) : Ev sc d mc ms M pc L (.int y :: .int x :: S) σ Q := by
  intro p l e R s m args below meth c D cA b ex H locs cells slots Qt ls hC hR hL hf1 hlo hce hsl hret
  have K := kk p l e R s m args below meth c D cA b ex H locs cells slots Qt ls hC hR hL hf1 hlo hce hsl hret
  obtain ⟨hx, hb, hml, hown, hts, hK, hX, hbl, hnm⟩ := hC
  exact lv_idiv hx hb hd hne K
theorem Ev.irem {x y : Int32} (hd : decode M.2.1 pc = .ok (.irem, 1)) (hne : ¬ y = 0)
    (kk : Ev sc d mc ms M (pc + 1) L (.int (x - x / y * y) :: S) σ Q) : Ev sc d mc ms M pc L (.int y :: .int x :: S) σ Q := by
  intro p l e R s m args below meth c D cA b ex H locs cells slots Qt ls hC hR hL hf1 hlo hce hsl hret
  have K := kk p l e R s m args below meth c D cA b ex H locs cells slots Qt ls hC hR hL hf1 hlo hce hsl hret
  obtain ⟨hx, hb, hml, hown, hts, hK, hX, hbl, hnm⟩ := hC
  exact lv_irem hx hb hd hne K
theorem Ev.goto {off : Int} {tgt : Nat} (hd : decode M.2.1 pc = .ok (.goto off, 3)) (ht : (pc : Int) + off = (tgt : Int)) (kk : Ev sc d mc ms M tgt L S σ Q) : Ev sc d mc ms M pc L S σ Q := by
  intro p l e R s m args below meth c D cA b ex H locs cells slots Qt ls hC hR hL hf1 hlo hce hsl hret
  have K := kk p l e R s m args below meth c D cA b ex H locs cells slots Qt ls hC hR hL hf1 hlo hce hsl hret
  obtain ⟨hx, hb, hml, hown, hts, hK, hX, hbl, hnm⟩ := hC
  exact lv_goto hx hb hd ht K
theorem Ev.tblOut {dflt lo hi : Int} {offs : Array Int} {len : Nat} {x : Int32} {tgt : Nat} (hd : decode M.2.1 pc = .ok (.tableswitch dflt lo hi offs, len)) (h : x.toInt < lo ∨ hi < x.toInt) (ht : (pc : Int) + dflt = (tgt : Int)) (kk : Ev sc d mc ms M tgt L S σ Q) : Ev sc d mc ms M pc L (.int x :: S) σ Q := by
  intro p l e R s m args below meth c D cA b ex H locs cells slots Qt ls hC hR hL hf1 hlo hce hsl hret
  have K := kk p l e R s m args below meth c D cA b ex H locs cells slots Qt ls hC hR hL hf1 hlo hce hsl hret
  obtain ⟨hx, hb, hml, hown, hts, hK, hX, hbl, hnm⟩ := hC
  exact lv_tableOut hx hb hd h ht K
theorem Ev.tblIn {dflt lo hi : Int} {offs : Array Int} {len : Nat} {x : Int32} {off : Int} {tgt : Nat} (hd : decode M.2.1 pc = .ok (.tableswitch dflt lo hi offs, len)) (h1 : ¬ x.toInt < lo) (h2 : ¬ hi < x.toInt) (ho : offs[(x.toInt - lo).toNat]? = some off) (ht : (pc : Int) + off = (tgt : Int)) (kk : Ev sc d mc ms M tgt L S σ Q) : Ev sc d mc ms M pc L (.int x :: S) σ Q := by
  intro p l e R s m args below meth c D cA b ex H locs cells slots Qt ls hC hR hL hf1 hlo hce hsl hret
  have K := kk p l e R s m args below meth c D cA b ex H locs cells slots Qt ls hC hR hL hf1 hlo hce hsl hret
  obtain ⟨hx, hb, hml, hown, hts, hK, hX, hbl, hnm⟩ := hC
  exact lv_tableIn hx hb hd h1 h2 ho ht K
theorem Ev.if_eq {x : Int32} {off : Int} {tgt : Nat} (hd : decode M.2.1 pc = .ok (.ifCond .eq off, 3)) (ht : (pc : Int) + off = (tgt : Int)) (kt : x = 0 → Ev sc d mc ms M tgt L S σ Q) (kf : ¬ (x = 0) → Ev sc d mc ms M (pc + 3) L S σ Q) : Ev sc d mc ms M pc L (.int x :: S) σ Q := by
  intro p l e R s m args below meth c D cA b ex H locs cells slots Qt ls hC hR hL hf1 hlo hce hsl hret
  have Kt := fun h => kt h p l e R s m args below meth c D cA b ex H locs cells slots Qt ls hC hR hL hf1 hlo hce hsl hret
  have Kf := fun h => kf h p l e R s m args below meth c D cA b ex H locs cells slots Qt ls hC hR hL hf1 hlo hce hsl hret
  obtain ⟨hx, hb, hml, hown, hts, hK, hX, hbl, hnm⟩ := hC
  exact lv_if_eq hx hb hd ht Kt Kf
theorem Ev.icmp_eq {x y : Int32} {off : Int} {tgt : Nat} (hd : decode M.2.1 pc = .ok (.if_icmp .eq off, 3)) (ht : (pc : Int) + off = (tgt : Int)) (kt : x = y → Ev sc d mc ms M tgt L S σ Q) (kf : ¬ (x = y) → Ev sc d mc ms M (pc + 3) L S σ Q) : Ev sc d mc ms M pc L (.int y :: .int x :: S) σ Q := by
  intro p l e R s m args below meth c D cA b ex H locs cells slots Qt ls hC hR hL hf1 hlo hce hsl hret
  have Kt := fun h => kt h p l e R s m args below meth c D cA b ex H locs cells slots Qt ls hC hR hL hf1 hlo hce hsl hret
  have Kf := fun h => kf h p l e R s m args below meth c D cA b ex H locs cells slots Qt ls hC hR hL hf1 hlo hce hsl hret
  obtain ⟨hx, hb, hml, hown, hts, hK, hX, hbl, hnm⟩ := hC
  exact lv_icmp_eq hx hb hd ht Kt Kf
theorem Ev.if_ne {x : Int32} {off : Int} {tgt : Nat} (hd : decode M.2.1 pc = .ok (.ifCond .ne off, 3)) (ht : (pc : Int) + off = (tgt : Int)) (kt : ¬ x = 0 → Ev sc d mc ms M tgt L S σ Q) (kf : x = 0 → Ev sc d mc ms M (pc + 3) L S σ Q) : Ev sc d mc ms M pc L (.int x :: S) σ Q := by
  intro p l e R s m args below meth c D cA b ex H locs cells slots Qt ls hC hR hL hf1 hlo hce hsl hret
  have Kt := fun h => kt h p l e R s m args below meth c D cA b ex H locs cells slots Qt ls hC hR hL hf1 hlo hce hsl hret
  have Kf := fun h => kf h p l e R s m args below meth c D cA b ex H locs cells slots Qt ls hC hR hL hf1 hlo hce hsl hret
  obtain ⟨hx, hb, hml, hown, hts, hK, hX, hbl, hnm⟩ := hC
  exact lv_if_ne hx hb hd ht Kt Kf
theorem Ev.icmp_ne {x y : Int32} {off : Int} {tgt : Nat} (hd : decode M.2.1 pc = .ok (.if_icmp .ne off, 3)) (ht : (pc : Int) + off = (tgt : Int)) (kt : ¬ x = y → Ev sc d mc ms M tgt L S σ Q) (kf : x = y → Ev sc d mc ms M (pc + 3) L S σ Q) : Ev sc d mc ms M pc L (.int y :: .int x :: S) σ Q := by
  intro p l e R s m args below meth c D cA b ex H locs cells slots Qt ls hC hR hL hf1 hlo hce hsl hret
  have Kt := fun h => kt h p l e R s m args below meth c D cA b ex H locs cells slots Qt ls hC hR hL hf1 hlo hce hsl hret
  have Kf := fun h => kf h p l e R s m args below meth c D cA b ex H locs cells slots Qt ls hC hR hL hf1 hlo hce hsl hret
  obtain ⟨hx, hb, hml, hown, hts, hK, hX, hbl, hnm⟩ := hC
  exact lv_icmp_ne hx hb hd ht Kt Kf
theorem Ev.if_lt {x : Int32} {off : Int} {tgt : Nat} (hd : decode M.2.1 pc = .ok (.ifCond .lt off, 3)) (ht : (pc : Int) + off = (tgt : Int)) (kt : x < 0 → Ev sc d mc ms M tgt L S σ Q) (kf : ¬ (x < 0) → Ev sc d mc ms M (pc + 3) L S σ Q) : Ev sc d mc ms M pc L (.int x :: S) σ Q := by
  intro p l e R s m args below meth c D cA b ex H locs cells slots Qt ls hC hR hL hf1 hlo hce hsl hret
  have Kt := fun h => kt h p l e R s m args below meth c D cA b ex H locs cells slots Qt ls hC hR hL hf1 hlo hce hsl hret
  have Kf := fun h => kf h p l e R s m args below meth c D cA b ex H locs cells slots Qt ls hC hR hL hf1 hlo hce hsl hret
  obtain ⟨hx, hb, hml, hown, hts, hK, hX, hbl, hnm⟩ := hC
  exact lv_if_lt hx hb hd ht Kt Kf
theorem Ev.icmp_lt {x y : Int32} {off : Int} {tgt : Nat} (hd : decode M.2.1 pc = .ok (.if_icmp .lt off, 3)) (ht : (pc : Int) + off = (tgt : Int)) (kt : x < y → Ev sc d mc ms M tgt L S σ Q) (kf : ¬ (x < y) → Ev sc d mc ms M (pc + 3) L S σ Q) : Ev sc d mc ms M pc L (.int y :: .int x :: S) σ Q := by
  intro p l e R s m args below meth c D cA b ex H locs cells slots Qt ls hC hR hL hf1 hlo hce hsl hret
  have Kt := fun h => kt h p l e R s m args below meth c D cA b ex H locs cells slots Qt ls hC hR hL hf1 hlo hce hsl hret
  have Kf := fun h => kf h p l e R s m args below meth c D cA b ex H locs cells slots Qt ls hC hR hL hf1 hlo hce hsl hret
  obtain ⟨hx, hb, hml, hown, hts, hK, hX, hbl, hnm⟩ := hC
  exact lv_icmp_lt hx hb hd ht Kt Kf
theorem Ev.if_ge {x : Int32} {off : Int} {tgt : Nat} (hd : decode M.2.1 pc = .ok (.ifCond .ge off, 3)) (ht : (pc : Int) + off = (tgt : Int)) (kt : 0 ≤ x → Ev sc d mc ms M tgt L S σ Q) (kf : ¬ (0 ≤ x) → Ev sc d mc ms M (pc + 3) L S σ Q) : Ev sc d mc ms M pc L (.int x :: S) σ Q := by
  intro p l e R s m args below meth c D cA b ex H locs cells slots Qt ls hC hR hL hf1 hlo hce hsl hret
  have Kt := fun h => kt h p l e R s m args below meth c D cA b ex H locs cells slots Qt ls hC hR hL hf1 hlo hce hsl hret
  have Kf := fun h => kf h p l e R s m args below meth c D cA b ex H locs cells slots Qt ls hC hR hL hf1 hlo hce hsl hret
  obtain ⟨hx, hb, hml, hown, hts, hK, hX, hbl, hnm⟩ := hC
  exact lv_if_ge hx hb hd ht Kt Kf
theorem Ev.icmp_ge {x y : Int32} {off : Int} {tgt : Nat} (hd : decode M.2.1 pc = .ok (.if_icmp .ge off, 3)) (ht : (pc : Int) + off = (tgt : Int)) (kt : y ≤ x → Ev sc d mc ms M tgt L S σ Q) (kf : ¬ (y ≤ x) → Ev sc d mc ms M (pc + 3) L S σ Q) : Ev sc d mc ms M pc L (.int y :: .int x :: S) σ Q := by
  intro p l e R s m args below meth c D cA b ex H locs cells slots Qt ls hC hR hL hf1 hlo hce hsl hret
  have Kt := fun h => kt h p l e R s m args below meth c D cA b ex H locs cells slots Qt ls hC hR hL hf1 hlo hce hsl hret
  have Kf := fun h => kf h p l e R s m args below meth c D cA b ex H locs cells slots Qt ls hC hR hL hf1 hlo hce hsl hret
  obtain ⟨hx, hb, hml, hown, hts, hK, hX, hbl, hnm⟩ := hC
  exact lv_icmp_ge hx hb hd ht Kt Kf
theorem Ev.if_gt {x : Int32} {off : Int} {tgt : Nat} (hd : decode M.2.1 pc = .ok (.ifCond .gt off, 3)) (ht : (pc : Int) + off = (tgt : Int)) (kt : 0 < x → Ev sc d mc ms M tgt L S σ Q) (kf : ¬ (0 < x) → Ev sc d mc ms M (pc + 3) L S σ Q) : Ev sc d mc ms M pc L (.int x :: S) σ Q := by
  intro p l e R s m args below meth c D cA b ex H locs cells slots Qt ls hC hR hL hf1 hlo hce hsl hret
  have Kt := fun h => kt h p l e R s m args below meth c D cA b ex H locs cells slots Qt ls hC hR hL hf1 hlo hce hsl hret
  have Kf := fun h => kf h p l e R s m args below meth c D cA b ex H locs cells slots Qt ls hC hR hL hf1 hlo hce hsl hret
  obtain ⟨hx, hb, hml, hown, hts, hK, hX, hbl, hnm⟩ := hC
  exact lv_if_gt hx hb hd ht Kt Kf
theorem Ev.icmp_gt {x y : Int32} {off : Int} {tgt : Nat} (hd : decode M.2.1 pc = .ok (.if_icmp .gt off, 3)) (ht : (pc : Int) + off = (tgt : Int)) (kt : y < x → Ev sc d mc ms M tgt L S σ Q) (kf : ¬ (y < x) → Ev sc d mc ms M (pc + 3) L S σ Q) : Ev sc d mc ms M pc L (.int y :: .int x :: S) σ Q := by
  intro p l e R s m args below meth c D cA b ex H locs cells slots Qt ls hC hR hL hf1 hlo hce hsl hret
  have Kt := fun h => kt h p l e R s m args below meth c D cA b ex H locs cells slots Qt ls hC hR hL hf1 hlo hce hsl hret
  have Kf := fun h => kf h p l e R s m args below meth c D cA b ex H locs cells slots Qt ls hC hR hL hf1 hlo hce hsl hret
  obtain ⟨hx, hb, hml, hown, hts, hK, hX, hbl, hnm⟩ := hC
  exact lv_icmp_gt hx hb hd ht Kt Kf
theorem Ev.if_le {x : Int32} {off : Int} {tgt : Nat} (hd : decode M.2.1 pc = .ok (.ifCond .le off, 3)) (ht : (pc : Int) + off = (tgt : Int)) (kt : x ≤ 0 → Ev sc d mc ms M tgt L S σ Q) (kf : ¬ (x ≤ 0) → Ev sc d mc ms M (pc + 3) L S σ Q) : Ev sc d mc ms M pc L (.int x :: S) σ Q := by
  intro p l e R s m args below meth c D cA b ex H locs cells slots Qt ls hC hR hL hf1 hlo hce hsl hret
  have Kt := fun h => kt h p l e R s m args below meth c D cA b ex H locs cells slots Qt ls hC hR hL hf1 hlo hce hsl hret
  have Kf := fun h => kf h p l e R s m args below meth c D cA b ex H locs cells slots Qt ls hC hR hL hf1 hlo hce hsl hret
  obtain ⟨hx, hb, hml, hown, hts, hK, hX, hbl, hnm⟩ := hC
  exact lv_if_le hx hb hd ht Kt Kf
theorem Ev.icmp_le {x y : Int32} {off : Int} {tgt : Nat} (hd : decode M.2.1 pc = .ok (.if_icmp .le off, 3)) (ht : (pc : Int) + off = (tgt : Int)) (kt : x ≤ y → Ev sc d mc ms M tgt L S σ Q) (kf : ¬ (x ≤ y) → Ev sc d mc ms M (pc + 3) L S σ Q) : Ev sc d mc ms M pc L (.int y :: .int x :: S) σ Q := by
  intro p l e R s m args below meth c D cA b ex H locs cells slots Qt ls hC hR hL hf1 hlo hce hsl hret
  have Kt := fun h => kt h p l e R s m args below meth c D cA b ex H locs cells slots Qt ls hC hR hL hf1 hlo hce hsl hret
  have Kf := fun h => kf h p l e R s m args below meth c D cA b ex H locs cells slots Qt ls hC hR hL hf1 hlo hce hsl hret
  obtain ⟨hx, hb, hml, hown, hts, hK, hX, hbl, hnm⟩ := hC
  exact lv_icmp_le hx hb hd ht Kt Kf
theorem Ev.vret (hr : M.2.2.2.1 = none) (hd : decode M.2.1 pc = .ok (.return_, 1)) (hq : Q none σ) : Ev sc d mc ms M pc L [] σ Q := by
  intro p l e R s m args below meth c D cA b ex H locs cells slots Qt ls hC hR hL hf1 hlo hce hsl hret
  exact hret pc ls none σ H locs cells slots hq hR (Nat.le_add_right _ _) (Nat.le_add_right _ _) (Or.inl ⟨hr, rfl, hd⟩)
theorem Ev.iret {x : Int32} (hr : M.2.2.2.1 = some .int) (hd : decode M.2.1 pc = .ok (.ireturn, 1)) (hq : Q (some (.int x)) σ) : Ev sc d mc ms M pc L [.int x] σ Q := by
  intro p l e R s m args below meth c D cA b ex H locs cells slots Qt ls hC hR hL hf1 hlo hce hsl hret
  exact hret pc ls (some (.int x)) σ H locs cells slots hq hR (Nat.le_add_right _ _) (Nat.le_add_right _ _) (Or.inr (Or.inl ⟨hr, x, rfl, hd⟩))
theorem Ev.zret {x : Int32} (hr : M.2.2.2.1 = some .boolean) (hd : decode M.2.1 pc = .ok (.ireturn, 1)) (h01 : x = 0 ∨ x = 1) (hq : Q (some (.int x)) σ) : Ev sc d mc ms M pc L [.int x] σ Q := by
  intro p l e R s m args below meth c D cA b ex H locs cells slots Qt ls hC hR hL hf1 hlo hce hsl hret
  exact hret pc ls (some (.int x)) σ H locs cells slots hq hR (Nat.le_add_right _ _) (Nat.le_add_right _ _) (Or.inr (Or.inr (Or.inl ⟨hr, x, h01, rfl, hd⟩)))
theorem Ev.lret {x : Int64} (hr : M.2.2.2.1 = some .long) (hd : decode M.2.1 pc = .ok (.lreturn, 1)) (hq : Q (some (.long x)) σ) : Ev sc d mc ms M pc L [.long x] σ Q := by
  intro p l e R s m args below meth c D cA b ex H locs cells slots Qt ls hC hR hL hf1 hlo hce hsl hret
  exact hret pc ls (some (.long x)) σ H locs cells slots hq hR (Nat.le_add_right _ _) (Nat.le_add_right _ _) (Or.inr (Or.inr (Or.inr ⟨hr, x, rfl, hd⟩)))
theorem Ev.mmin {x y : Int32} {idx : Nat} (hd : decode M.2.1 pc = .ok (.invokestatic idx, 3)) (hst : (S.map fun v => v.category).sum ≤ 8) (w1 : Cond.methodLink M.1.cls idx Lib.Math.min.name ∈ zz_WG)
    (kk : Ev sc (d + 1) mc ms M (pc + 3) L (.int (if y < x then y else x) :: S) σ Q) : Ev sc (d + 1) mc ms M pc L (.int y :: .int x :: S) σ Q := by
  intro p l e R s m args below meth c D cA b ex H locs cells slots Qt ls hC hR hL hf1 hlo hce hsl hret
  have K := kk p l e R s m args below meth c D cA b ex H locs cells slots Qt ls hC hR hL hf1 hlo hce hsl hret
  obtain ⟨hx, hb, hml, hown, hts, hK, hX, hbl, hnm⟩ := hC
  exact va_mmin hx hb (by rw [hml]; exact hL.1.symm) hown (hts _ w1) (hts _ zz_w_mmin.1) (hts _ zz_w_math) (hts _ zz_w_mmin.2) (by omega) (by rw [zz_cats]; omega) (by omega) (by omega) hd K
theorem Ev.mmax {x y : Int32} {idx : Nat} (hd : decode M.2.1 pc = .ok (.invokestatic idx, 3)) (hst : (S.map fun v => v.category).sum ≤ 8) (w1 : Cond.methodLink M.1.cls idx Lib.Math.max.name ∈ zz_WG)
    (kk : Ev sc (d + 1) mc ms M (pc + 3) L (.int (if x < y then y else x) :: S) σ Q) : Ev sc (d + 1) mc ms M pc L (.int y :: .int x :: S) σ Q := by
  intro p l e R s m args below meth c D cA b ex H locs cells slots Qt ls hC hR hL hf1 hlo hce hsl hret
  have K := kk p l e R s m args below meth c D cA b ex H locs cells slots Qt ls hC hR hL hf1 hlo hce hsl hret
  obtain ⟨hx, hb, hml, hown, hts, hK, hX, hbl, hnm⟩ := hC
  exact va_mmax hx hb (by rw [hml]; exact hL.1.symm) hown (hts _ w1) (hts _ zz_w_mmax.1) (hts _ zz_w_math) (hts _ zz_w_mmax.2) (by omega) (by rw [zz_cats]; omega) (by omega) (by omega) hd K
theorem Ev.mabs {x : Int32} {idx : Nat} (hd : decode M.2.1 pc = .ok (.invokestatic idx, 3)) (hst : (S.map fun v => v.category).sum ≤ 8) (w1 : Cond.methodLink M.1.cls idx Lib.Math.abs.name ∈ zz_WG)
    (kk : Ev sc (d + 1) mc ms M (pc + 3) L (.int (if 0 ≤ x then x else 0 - x) :: S) σ Q) : Ev sc (d + 1) mc ms M pc L (.int x :: S) σ Q := by
  intro p l e R s m args below meth c D cA b ex H locs cells slots Qt ls hC hR hL hf1 hlo hce hsl hret
  have K := kk p l e R s m args below meth c D cA b ex H locs cells slots Qt ls hC hR hL hf1 hlo hce hsl hret
  obtain ⟨hx, hb, hml, hown, hts, hK, hX, hbl, hnm⟩ := hC
  exact va_mabs hx hb (by rw [hml]; exact hL.1.symm) hown (hts _ w1) (hts _ zz_w_mabs.1) (hts _ zz_w_math) (hts _ zz_w_mabs.2) (by omega) (by rw [zz_cats]; omega) (by omega) (by omega) hd K
theorem Ev.callSN {d : Nat} {mc1 ms1 mc2 ms2 : Nat} (M' : zz_MD) {idx n : Nat} {host : String} (as rest : List Value) (Q1 : Option Value → zz_St → Prop)
    (hw : Cond.methodLinkNest M.1.cls idx M'.1 host ∈ zz_nest) (w1 : Cond.code M'.1 M'.2.1 M'.2.2.1 M'.2.2.2.1 ∈ zz_WG) (w2 : Cond.initialized M'.1.cls ∈ zz_WG) (w4 : M'.1.cls ≠ "java/lang/invoke/MethodHandle" ∧ M'.1.cls ≠ "java/lang/invoke/VarHandle" ∧ (parseMethodDescriptor M'.1.desc).map (fun d => d.parameters.length) = some n) (w5 : M'.2.2.1 ≤ 17) (w6 : Cond.static M'.1 ∈ zz_WG)
    (hd : decode M.2.1 pc = .ok (.invokestatic idx, 3)) (hn : as.length = n) (hst : (rest.map fun v => v.category).sum ≤ 8)
    (hM : EvM sc d mc1 ms1 M' as σ Q1) (kk : ∀ (r : Option Value) (σ' : zz_St), Q1 r σ' → Ev sc (d + 1) mc2 ms2 M (pc + 3) L (r.toList ++ rest) σ' Q) : Ev sc (d + 1) (mc1 + mc2) (ms1 + ms2) M pc L (as.reverse ++ rest) σ Q := by
  intro p l e R s m args below meth c D cA b ex H locs cells slots Qt ls hC hR hL hf hlo hce hsl hret
  have hC' := hC
  obtain ⟨hx, hb, hml, hown, hts, hK, hX, hbl, hnm⟩ := hC
  have hpre := zz_pre hC' hR (as.map (zz_tr b ex))
  have hstk : (as.reverse ++ rest).map (zz_tr b ex) = (as.map (zz_tr b ex)).reverse ++ rest.map (zz_tr b ex) := by
    rw [List.map_append, List.map_reverse]
  rw [hstk]
  refine zz_go (Q1 := Q1) (a := #[]) (va_runSN (As := as.map (zz_tr b ex)) (n := n) ⟨hx, hb, hml, hown, hts⟩ (hM l D cA b ex) ⟨va_cnB n hts (zz_gw w1) rfl rfl rfl (hK.2 _ hw) (hts _ w2) w4 ⟨by show d + 1 ≤ R.frames; omega, by show 8 + (M'.2.2.1 + 11) + 36 * d ≤ R.locals; omega⟩, hts _ w6, trivial⟩ hpre rfl (by rw [List.length_map]; exact hn) hL.1 rfl (lv_room (by rw [zz_cats]; exact hst)) hd ⟨by omega, by omega⟩) hR.2.2.2 ?_
  intro r σ' H1 locs1 hq1 hR1
  have h1 := kk r σ' hq1 p l e R s m args below meth c D cA b ex H1 locs1 (cells + mc1) (slots + ms1) Qt ls hC' hR1 hL hf hlo (by omega) (by omega) (fun pc' ls' r' σ'' H' locs' cells' slots' a1 a2 a3 a4 a5 => hret pc' ls' r' σ'' H' locs' cells' slots' a1 a2 (by omega) (by omega) a5)
  have e9 : (r.toList ++ rest).map (zz_tr b ex) = (r.map (zz_tr b ex)).toList ++ rest.map (zz_tr b ex) := by
    cases r <;> rfl
  rw [e9] at h1
  exact h1
/-! by places -/
theorem zz_vin {i : Int32} {j n : Nat} (hi : i = nI j) (hj : j < n) (hn : n < 2 ^ 31) : vp_in i n := by rw [hi]; exact vp_in_nI hj hn
theorem Ev.iald {k n : Nat} {rs : List (Option Nat)} {i : Int32} (j : Nat) (hd : decode M.2.1 pc = .ok (.iaload, 1)) (hk : σ.1[k]? = some (.inr (0, n, rs))) (hi : i = nI j) (hj : j < n) (hn : n < 2 ^ 31)
    (kk : Ev sc d mc ms M (pc + 1) L (.int (σ.2.1 k j) :: S) σ Q) : Ev sc d mc ms M pc L (.int i :: .ref k :: S) σ Q := by
  refine Ev.iald0 hd hk (zz_vin hi hj hn) ?_
  rw [hi, nI_clamp (Nat.lt_trans hj hn)]
  exact kk
theorem Ev.zald {k n : Nat} {rs : List (Option Nat)} {i : Int32} (j : Nat) (hd : decode M.2.1 pc = .ok (.baload, 1)) (hk : σ.1[k]? = some (.inr (2, n, rs))) (hi : i = nI j) (hj : j < n) (hn : n < 2 ^ 31)
    (kk : Ev sc d mc ms M (pc + 1) L (.int (σ.2.1 k j) :: S) σ Q) : Ev sc d mc ms M pc L (.int i :: .ref k :: S) σ Q := by
  refine Ev.zald0 hd hk (zz_vin hi hj hn) ?_
  rw [hi, nI_clamp (Nat.lt_trans hj hn)]
  exact kk
theorem Ev.lald {k n : Nat} {rs : List (Option Nat)} {i : Int32} (j : Nat) (hd : decode M.2.1 pc = .ok (.laload, 1)) (hk : σ.1[k]? = some (.inr (1, n, rs))) (hi : i = nI j) (hj : j < n) (hn : n < 2 ^ 31)
    (kk : Ev sc d mc ms M (pc + 1) L (.long (σ.2.2 k j) :: S) σ Q) : Ev sc d mc ms M pc L (.int i :: .ref k :: S) σ Q := by
  refine Ev.lald0 hd hk (zz_vin hi hj hn) ?_
  rw [hi, nI_clamp (Nat.lt_trans hj hn)]
  exact kk
theorem Ev.aald {k n tg r : Nat} {rs : List (Option Nat)} {i : Int32} (j : Nat) (hd : decode M.2.1 pc = .ok (.aaload, 1)) (hk : σ.1[k]? = some (.inr (tg, n, rs))) (htg : 3 ≤ tg ∧ tg ≤ 6) (hi : i = nI j) (hj : j < n) (hn : n < 2 ^ 31) (hr : rs[j]? = some (some r))
    (kk : Ev sc d mc ms M (pc + 1) L (.ref r :: S) σ Q) : Ev sc d mc ms M pc L (.int i :: .ref k :: S) σ Q := by
  refine Ev.aald0 (r := r) hd hk htg (zz_vin hi hj hn) ?_ kk
  rw [hi, nI_clamp (Nat.lt_trans hj hn)]
  exact hr
theorem Ev.iast {k n : Nat} {rs : List (Option Nat)} {i v : Int32} (j : Nat) (hd : decode M.2.1 pc = .ok (.iastore, 1)) (hk : σ.1[k]? = some (.inr (0, n, rs))) (hi : i = nI j) (hj : j < n) (hn : n < 2 ^ 31)
    (kk : Ev sc d mc ms M (pc + 1) L S (σ.1, zz_up σ.2.1 k j v, σ.2.2) Q) : Ev sc d mc ms M pc L (.int v :: .int i :: .ref k :: S) σ Q := by
  refine Ev.iast0 hd hk (zz_vin hi hj hn) ?_
  rw [hi, nI_clamp (Nat.lt_trans hj hn)]
  exact kk
theorem Ev.zast {k n : Nat} {rs : List (Option Nat)} {i v : Int32} (j : Nat) (hd : decode M.2.1 pc = .ok (.bastore, 1)) (hk : σ.1[k]? = some (.inr (2, n, rs))) (hi : i = nI j) (hj : j < n) (hn : n < 2 ^ 31)
    (kk : Ev sc d mc ms M (pc + 1) L S (σ.1, zz_up σ.2.1 k j (vp_nar .boolean v), σ.2.2) Q) : Ev sc d mc ms M pc L (.int v :: .int i :: .ref k :: S) σ Q := by
  refine Ev.zast0 hd hk (zz_vin hi hj hn) ?_
  rw [hi, nI_clamp (Nat.lt_trans hj hn)]
  exact kk
theorem Ev.last {k n : Nat} {rs : List (Option Nat)} {i : Int32} {v : Int64} (j : Nat) (hd : decode M.2.1 pc = .ok (.lastore, 1)) (hk : σ.1[k]? = some (.inr (1, n, rs))) (hi : i = nI j) (hj : j < n) (hn : n < 2 ^ 31)
    (kk : Ev sc d mc ms M (pc + 1) L S (σ.1, σ.2.1, zz_upL σ.2.2 k j v) Q) : Ev sc d mc ms M pc L (.long v :: .int i :: .ref k :: S) σ Q := by
  refine Ev.last0 hd hk (zz_vin hi hj hn) ?_
  rw [hi, nI_clamp (Nat.lt_trans hj hn)]
  exact kk
theorem Ev.xldN {i0 : Nat} {i : Int32} (j : Nat) (hd : decode M.2.1 pc = .ok (.iaload, 1)) (h4 : i0 < 4) (hi : i = nI j) (hj : j < (zz_xs sc i0).1) (hn : (zz_xs sc i0).1 < 2 ^ 31)
    (kk : Ev sc d mc ms M (pc + 1) L (.int ((zz_xs sc i0).2 j) :: S) σ Q) : Ev sc d mc ms M pc L (.int i :: .ref (100000 + i0) :: S) σ Q := by
  refine Ev.xld hd h4 (zz_vin hi hj hn) ?_
  rw [hi, nI_clamp (Nat.lt_trans hj hn)]
  exact kk
/-! ===== straight stretches ===== -/
def zz_stepG (oc : Nat) (σ : zz_St) (i : Instr) (n pc : Nat) (L : List (Option Value)) (S : List Value) : Option (Nat × List (Option Value) × List Value) := match i with
  | .getfield idx => match S, Nat.beq n 3 with
    | .ref k :: r, true => match zz_fl oc idx, σ.1[k]? with
      | some (ci, j), some (.inl o) => match Nat.beq ci o.1, o.2[j]? with
        | true, some x => match zz_val σ.2.1 k j x with
          | some v => some (pc + 3, L, v :: r)
          | none => none
        | _, _ => none
      | _, _ => none
    | _, _ => none
  | i => match Nat.beq (zz_len i) n with
    | true => zz_step i n pc L S
    | false => none
def zz_run (oc : Nat) (σ : zz_St) : List (Instr × Nat) → Nat → List (Option Value) → List Value → Option (Nat × List (Option Value) × List Value)
  | [], pc, L, S => some (pc, L, S)
  | (i, n) :: r, pc, L, S => match zz_stepG oc σ i n pc L S with
    | some (pc', L', S') => zz_run oc σ r pc' L' S'
    | none => none
def zz_chk (c : ByteArray) : List (Instr × Nat) → Nat → Bool
  | [], _ => true
  | (i, n) :: r, pc => decide (decode c pc = .ok (i, n)) && zz_chk c r (pc + n)
theorem Ev.stepG {i : Instr} {n pc' : Nat} {L' : List (Option Value)} {S' : List Value} (hoc : M.1.cls = zz_cn M.2.2.2.2) (hd : decode M.2.1 pc = .ok (i, n)) (hs : zz_stepG M.2.2.2.2 σ i n pc L S = some (pc', L', S')) (kk : Ev sc d mc ms M pc' L' S' σ Q) : Ev sc d mc ms M pc L S σ Q ∧ pc' = pc + n := by
  unfold zz_stepG at hs
  split at hs
  · next idx =>
    split at hs
    · next k r hn =>
      have hn : n = 3 := Nat.eq_of_beq_eq_true hn
      subst hn
      split at hs
      · next ci j o h1 h2 =>
        split at hs
        · next x h3 h4 =>
          split at hs
          · next v h5 =>
            cases hs
            have e := Nat.eq_of_beq_eq_true h3
            obtain ⟨ci', fs⟩ := o
            dsimp only at e h4 h2
            subst e
            exact ⟨Ev.getf hoc h1 hd h2 h4 h5 kk, rfl⟩
          · cases hs
        · cases hs
      · cases hs
    · cases hs
  · split at hs
    · next h1 => exact ⟨Ev.step hd (Nat.eq_of_beq_eq_true h1) hs kk, zz_step_pc hs⟩
    · cases hs
theorem zz_stepG_pc {oc : Nat} {i : Instr} {n pc' : Nat} {L' : List (Option Value)} {S' : List Value} (hs : zz_stepG oc σ i n pc L S = some (pc', L', S')) : pc' = pc + n := by
  unfold zz_stepG at hs
  split at hs
  · split at hs
    · next hn =>
      have hn : n = 3 := Nat.eq_of_beq_eq_true hn
      subst hn
      split at hs
      · split at hs
        · split at hs
          · cases hs; rfl
          · cases hs
        · cases hs
      · cases hs
    · cases hs
  · split at hs
    · exact zz_step_pc hs
    · cases hs
theorem Ev.run (is : List (Instr × Nat)) {pc' : Nat} {L' : List (Option Value)} {S' : List Value} (hoc : M.1.cls = zz_cn M.2.2.2.2) (hc : zz_chk M.2.1 is pc = true) (hs : zz_run M.2.2.2.2 σ is pc L S = some (pc', L', S')) (kk : Ev sc d mc ms M pc' L' S' σ Q) : Ev sc d mc ms M pc L S σ Q := by
  induction is generalizing pc L S with
  | nil => cases hs; exact kk
  | cons a r ih =>
    obtain ⟨i, n⟩ := a
    simp only [zz_chk, Bool.and_eq_true, decide_eq_true_eq] at hc
    simp only [zz_run] at hs
    split at hs
    · next p1 L1 S1 h1 =>
      have hp : p1 = pc + n := zz_stepG_pc h1
      exact (Ev.stepG hoc hc.1 h1 (ih (by rw [hp]; exact hc.2) hs)).1
    · cases hs
end ZZO
