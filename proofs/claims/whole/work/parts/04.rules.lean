/-! ===== the locals ===== -/
def zz_lk (L : List (Option Value)) (i : Nat) : Option Value := match L[i]? with
  | some (some v) => some v
  | _ => none
def zz_n2 (L : List (Option Value)) (i : Nat) : Bool := match i with
  | 0 => true
  | j + 1 => match L[j]? with
    | some (some (.long _)) => false
    | some (some (.double _)) => false
    | _ => true
def zz_Ll (b : Nat) (ex : Nat → Nat) (L : List (Option Value)) : List (Nat × Value) := (List.range L.length).filterMap (fun i => (L[i]?.join).map (fun v => (i, zz_tr b ex v)))
theorem zz_lk_spec {L : List (Option Value)} {i : Nat} {v : Value} (h : zz_lk L i = some v) : L[i]? = some (some v) := by
  unfold zz_lk at h
  split at h
  · next w hw => cases h; exact hw
  · cases h
theorem zz_Ll_mem {b : Nat} {ex : Nat → Nat} {L : List (Option Value)} {i : Nat} {v : Value} (h : L[i]? = some (some v)) : (i, zz_tr b ex v) ∈ zz_Ll b ex L := by
  refine List.mem_filterMap.mpr ⟨i, List.mem_range.mpr (List.getElem?_eq_some_iff.mp h).1, ?_⟩
  rw [h]; rfl
theorem zz_Ll_inv {b : Nat} {ex : Nat → Nat} {L : List (Option Value)} {q : Nat × Value} (h : q ∈ zz_Ll b ex L) : ∃ v, L[q.1]? = some (some v) ∧ q.2 = zz_tr b ex v := by
  obtain ⟨i, -, hi⟩ := List.mem_filterMap.mp h
  obtain ⟨v, hv, rfl⟩ := Option.map_eq_some_iff.mp hi
  refine ⟨v, ?_, rfl⟩
  show L[i]? = _
  cases hL : L[i]? with
  | none => rw [hL] at hv; cases hv
  | some w => rw [hL] at hv; exact congrArg some hv
theorem zz_L.has {b : Nat} {ex : Nat → Nat} {ls : Array Slot} {nL : Nat} {L : List (Option Value)} (h : zz_L b ex ls nL L) : lv_has ls nL (zz_Ll b ex L) := by
  refine ⟨h.1, h.2.1, fun q hq => ?_⟩
  obtain ⟨v, h1, h2⟩ := zz_Ll_inv hq
  rw [h2]
  exact h.2.2.2 _ _ h1
theorem zz_L.st1 {b : Nat} {ex : Nat → Nat} {ls ls' : Array Slot} {nL i : Nat} {L : List (Option Value)} {v : Value} (h0 : zz_L b ex ls nL L) (hn : zz_n2 L i = true) (hi : i < L.length) (h : lv_has ls' nL ((i, zz_tr b ex v) :: (zz_Ll b ex L).filter (fun q => !(q.1 == i) && !(q.1 + 1 == i && q.2.category == 2)))) : zz_L b ex ls' nL (L.set i (some v)) := by
  refine ⟨h.1, h.2.1, by rw [List.length_set]; exact h0.2.2.1, fun j w hj => ?_⟩
  by_cases e : j = i
  · subst e
    rw [List.getElem?_set_self hi] at hj
    cases hj
    exact h.2.2 (j, zz_tr b ex v) List.mem_cons_self
  · rw [List.getElem?_set_ne (Ne.symm e)] at hj
    refine h.2.2 (j, zz_tr b ex w) (List.mem_cons_of_mem _ (List.mem_filter.mpr ⟨zz_Ll_mem hj, ?_⟩))
    simp only [Bool.and_eq_true, Bool.not_eq_true', beq_eq_false_iff_ne, ne_eq, Bool.and_eq_false_iff]
    refine ⟨e, ?_⟩
    by_cases e2 : j + 1 = i
    · right
      subst e2
      simp only [zz_n2, hj] at hn
      rw [zz_cat]
      cases w <;> simp_all [Value.category]
    · exact Or.inl e2
theorem zz_L.st2 {b : Nat} {ex : Nat → Nat} {ls ls' : Array Slot} {nL i : Nat} {L : List (Option Value)} {v : Value} (h0 : zz_L b ex ls nL L) (hn : zz_n2 L i = true) (hi : i < L.length) (h : lv_has ls' nL ((i, zz_tr b ex v) :: (zz_Ll b ex L).filter (fun q => !(q.1 == i) && (!(q.1 == i + 1) && !(q.1 + 1 == i && q.2.category == 2))))) : zz_L b ex ls' nL ((L.set i (some v)).set (i + 1) none) := by
  refine ⟨h.1, h.2.1, by rw [List.length_set, List.length_set]; exact h0.2.2.1, fun j w hj => ?_⟩
  by_cases e3 : j = i + 1
  · subst e3
    by_cases h9 : i + 1 < (L.set i (some v)).length
    · rw [List.getElem?_set_self h9] at hj
      cases hj
    · rw [List.getElem?_eq_none (by rw [List.length_set]; omega)] at hj
      cases hj
  rw [List.getElem?_set_ne (Ne.symm e3)] at hj
  by_cases e : j = i
  · subst e
    rw [List.getElem?_set_self hi] at hj
    cases hj
    exact h.2.2 (j, zz_tr b ex v) List.mem_cons_self
  · rw [List.getElem?_set_ne (Ne.symm e)] at hj
    refine h.2.2 (j, zz_tr b ex w) (List.mem_cons_of_mem _ (List.mem_filter.mpr ⟨zz_Ll_mem hj, ?_⟩))
    simp only [Bool.and_eq_true, Bool.not_eq_true', beq_eq_false_iff_ne, ne_eq, Bool.and_eq_false_iff]
    refine ⟨e, e3, ?_⟩
    by_cases e2 : j + 1 = i
    · right
      subst e2
      simp only [zz_n2, hj] at hn
      rw [zz_cat]
      cases w <;> simp_all [Value.category]
    · exact Or.inl e2
/-! ===== the contract out of the walk ===== -/
theorem zz_sl (b : Nat) (ex : Nat → Nat) {as : List Value} (hc1 : as.all (fun v => v.category == 1) = true) : lg_sl (as.map (zz_tr b ex)) = (as.map (zz_tr b ex)).map Slot.val := by
  unfold lg_sl
  induction as with
  | nil => rfl
  | cons v r ih =>
    simp only [List.all_cons, Bool.and_eq_true, beq_iff_eq] at hc1
    simp only [List.map_cons, List.flatMap_cons]
    rw [if_neg (by rw [zz_cat, hc1.1]; decide), ih hc1.2]
    rfl
theorem EvM.of {sc : Nat × (Nat → Int32)} {d mc ms : Nat} {M : zz_MD} {as : List Value} {σ : zz_St} {Q : Option Value → zz_St → Prop} (hy : plainName M.1.cls = true) (hc1 : as.all (fun v => v.category == 1) = true) (hn : as.length ≤ M.2.2.1)
    (h : Ev sc d mc ms M 0 (as.map some ++ List.replicate (M.2.2.1 - as.length) none) [] σ Q) : EvM sc d mc ms M as σ Q := by
  intro l D cA b ex
  refine Met.ofW (cc := M.2.1) (maxL := M.2.2.1) (ret := M.2.2.2.1) hy rfl ?_
  intro p e s m args below meth c s₁ B hml hv
  obtain ⟨rfl, hK, hX, hbl, hsz, hlt, hP⟩ := hv
  have hts := atoms_spec (ws := zz_ws1 M) B.pre
  have hlocks := B.notSynchronized
  have hsl := zz_sl b ex hc1
  have hle := lv_entry (as.map (zz_tr b ex)) (n := M.2.2.1) (by rw [hsl]; simpa using hn)
  rw [lg_entry_eq]
  rw [hsl] at hle ⊢
  generalize hls : (List.map Slot.val (as.map (zz_tr b ex)) ++ List.replicate (M.2.2.1 - (List.map Slot.val (as.map (zz_tr b ex))).length) Slot.unset).toArray = ls at hle ⊢
  have hL : zz_L b ex ls M.2.2.1 (as.map some ++ List.replicate (M.2.2.1 - as.length) none) := by
    refine ⟨hle.1, hle.2.1, by simp; omega, fun i v hi => ?_⟩
    by_cases h9 : i < as.length
    · rw [List.getElem?_append_left (by simpa using h9)] at hi
      rw [← hls]
      simp only [List.getElem?_toArray]
      rw [List.getElem?_append_left (by simpa using h9)]
      simp only [List.getElem?_map] at hi ⊢
      obtain ⟨w, hw, e9⟩ := Option.map_eq_some_iff.mp hi
      cases e9
      rw [hw]; rfl
    · rw [List.getElem?_append_right (by simpa using h9)] at hi
      have := List.eq_of_mem_replicate (List.mem_of_getElem? hi)
      cases this
  refine h p l e _ s m _ below meth c D cA b ex s.heap [] 0 0 _ ls ⟨B.exec, B.bytes, hml, findClass_of_methodNamed B.named, fun w hw => hts w (List.mem_cons_of_mem _ hw), hK, hX, hbl, (name_of_methodNamed B.named B.method).1⟩ ⟨hsz, hlt, hP, va_S.rf⟩ hL (Nat.le_refl _) (Nat.le_refl _) (by show 0 + mc ≤ mc; omega) (by show 0 + ms ≤ ms; omega) ?_
  intro pc' ls' r σ' H' locs' cells' slots' hQ hR hc hs hrt
  refine W.widen (k := mc) (n := ms) (by omega) (by omega) ?_
  obtain ⟨z1, z2, z3, z4⟩ := hR
  rcases hrt with ⟨hr, rfl, hd⟩ | ⟨hr, x, rfl, hd⟩ | ⟨hr, x, h01, rfl, hd⟩ | ⟨hr, x, rfl, hd⟩
  · exact W.vret B.exec B.bytes (B.returns.trans hr) (fun t ht hW => ⟨⟨none, σ', rfl, hQ, by rw [ht]; exact z1, z2, by rw [ht]; exact z3⟩, z4.F ht⟩) z4.2.2 hd
  · exact W.iret B.exec B.bytes (B.returns.trans hr) (fun t ht hW => ⟨⟨some (.int x), σ', rfl, hQ, by rw [ht]; exact z1, z2, by rw [ht]; exact z3⟩, z4.F ht⟩) z4.2.2 hd
  · exact W.zret B.exec B.bytes (B.returns.trans hr) (by rcases h01 with rfl | rfl <;> decide) (fun t ht hW => ⟨⟨some (.int x), σ', rfl, hQ, by rw [ht]; exact z1, z2, by rw [ht]; exact z3⟩, z4.F ht⟩) z4.2.2 hd
  · exact W.lret B.exec B.bytes (B.returns.trans hr) (fun t ht hW => ⟨⟨some (.long x), σ', rfl, hQ, by rw [ht]; exact z1, z2, by rw [ht]; exact z3⟩, z4.F ht⟩) z4.2.2 hd

/-! ===== calls ===== -/
section ZZC
variable {p : Program} {l : Launch} {e : Env} {R : Room} {s : State} {m : MethodId} {args : Array Value} {below : List Frame} {meth : Method} {c : Code} {H : Heap} {locs : List Loc} {cells slots : Nat} {Qt : State → Prop}
theorem zz_go {D : va_G} {cA : Nat → ClassId} {b : Nat} {ex : Nat → Nat} {H0 : Heap} {pc mc ms : Nat} {ls : Array Slot} {rest st0 : List Value} {Q1 : Option Value → zz_St → Prop} {a : Array Value}
    (hr : va_Run p l e R s m args below meth c H locs cells slots mc ms (F0 m pc ls st0) rest (fun st oc t => (∃ (r : Option Value) (σ' : zz_St), oc = .returned (r.map (zz_tr b ex)) ∧ Q1 r σ' ∧ t.heap.size = b + σ'.1.length ∧ σ'.1.length < 100000 ∧ va_P D zz_cl (zz_ws cA b ex σ') t.heap) ∧ va_F (fun q => b ≤ q) st t) (fun q => b ≤ q))
    (hS : va_S (fun q => b ≤ q) H0 H locs)
    (kk : ∀ (r : Option Value) (σ' : zz_St) (H1 : Heap) (locs1 : List Loc), Q1 r σ' → zz_R D cA b ex σ' H0 H1 locs1 → W p l e R s m args below meth c H1 locs1 (cells + mc) (slots + ms) Qt (F0 m (pc + 3) ls ((r.map (zz_tr b ex)).toList ++ rest))) : W p l e R s m args below meth c H locs cells slots Qt (F0 m pc ls st0) := by
  intro T hT X
  obtain ⟨v, st₀, t, T', L, h0, X', hL, e1, e2, ⟨⟨r, σ', hv, hq, z1, z2, z3⟩, hz, hk⟩, st⟩ := hr T hT X
  have hv : v = r.map (zz_tr b ex) := by injection hv
  subst hv
  rw [h0] at hz hk
  obtain ⟨t2, a1, b1⟩ := kk r σ' T'.heap (locs ++ L) hq ⟨by rw [e1]; exact z1, z2, by rw [e1]; exact z3,
    ⟨Nat.le_trans hS.1 (by rw [e1]; exact hz), fun q h1 h2 => by rw [e1, hk q (Nat.lt_of_lt_of_le h1 hS.1) h2]; exact hS.2.1 q h1 h2, fun q hq => by
      rcases List.mem_append.mp hq with h | h
      · exact hS.2.2 q h
      · exact hL q h⟩⟩ T' rfl X'
  exact ⟨t2, st t2 a1, b1⟩
theorem zz_pre {D : va_G} {cA : Nat → ClassId} {b : Nat} {ex : Nat → Nat} {sc : Nat × (Nat → Int32)} {σ : zz_St} {M : zz_MD} (hC : zz_C p s m args meth c D cA b ex sc M) (hR : zz_R D cA b ex σ s.heap H locs) (av : List Value) :
    PreS s H (va_Pc av (fun U => zz_K D cA U ∧ zz_X b ex sc U U.heap ∧ b ≤ U.heap.size ∧ U.heap.size = b + σ.1.length ∧ σ.1.length < 100000 ∧ va_P D zz_cl (zz_ws cA b ex σ) U.heap)) av := by
  obtain ⟨hx, hb, hml, hown, hts, hK, hX, hbl, hnm⟩ := hC
  obtain ⟨z1, z2, z3, z4⟩ := hR
  refine ⟨fun a U g mk q => ?_, fun U hU hW => ?_⟩
  · obtain ⟨q0, q1, q2, q3, q4, q5, q6⟩ := q
    exact ⟨q0, zz_Kcall (u := U) (U := U.calling g mk a) rfl q1, zz_Xmove (s := U) (U := U.calling g mk a) (Vm.Alike.refl U.vm) (fun _ _ => rfl) q2, q3, q4, q5, q6⟩
  · refine ⟨rfl, zz_Kmove hW hK, ?_, by rw [hU, z1]; exact Nat.le_add_right _ _, by rw [hU]; exact z1, z2, by rw [hU]; exact z3⟩
    rw [hU]
    exact zz_Xmove hW.alike (fun a ha => z4.2.1 a (Nat.lt_of_lt_of_le ha hbl) (Nat.not_le.mpr ha)) hX
end ZZC
/-- what a call of an own method needs of the tables -/
def zz_cB (M M' : zz_MD) (idx n : Nat) : Prop := Cond.code M'.1 M'.2.1 M'.2.2.1 M'.2.2.2.1 ∈ zz_WG ∧ Cond.initialized M'.1.cls ∈ zz_WG ∧ Cond.methodLink M.1.cls idx M'.1 ∈ zz_WG ∧ (M'.1.cls ≠ "java/lang/invoke/MethodHandle" ∧ M'.1.cls ≠ "java/lang/invoke/VarHandle" ∧ (parseMethodDescriptor M'.1.desc).map (fun d => d.parameters.length) = some n) ∧ M'.2.2.1 ≤ 17
def zz_cV (M M' : zz_MD) (idx n : Nat) : Prop := zz_cB M M' idx n ∧ Cond.instanceMethod M'.1 ∈ zz_WG ∧ Cond.selects M'.1.cls M'.1 M'.1 ∈ zz_WG
def zz_cS (M M' : zz_MD) (idx n : Nat) : Prop := zz_cB M M' idx n ∧ Cond.static M'.1 ∈ zz_WG
theorem zz_gw {M' : zz_MD} (h : Cond.code M'.1 M'.2.1 M'.2.2.1 M'.2.2.2.1 ∈ zz_WG) : GoodIn zz_WG (zz_ws1 M') := fun w hw => (List.mem_cons.mp hw).elim (fun e => by rw [e]; exact zz_good _ h) (fun h2 => zz_good _ h2)
theorem Ev.callV {sc : Nat × (Nat → Int32)} {d mc1 ms1 mc2 ms2 : Nat} {M : zz_MD} (M' : zz_MD) {pc : Nat} {L : List (Option Value)} {σ : zz_St} {Q : Option Value → zz_St → Prop} {idx n k ci : Nat} (as rest : List Value) {fs : List (Option (Option Nat))} {q : vw_C} (Q1 : Option Value → zz_St → Prop)
    (hcv : zz_cV M M' idx n) (hd : decode M.2.1 pc = .ok (.invokevirtual idx, 3)) (hk : σ.1[k]? = some (.inl (ci, fs))) (hci : zz_cl[ci]? = some q) (hq : q.1 = M'.1.cls) (hn : as.length = n) (hst : (rest.map fun v => v.category).sum ≤ 8)
    (hM : EvM sc d mc1 ms1 M' (.ref k :: as) σ Q1) (kk : ∀ (r : Option Value) (σ' : zz_St), Q1 r σ' → Ev sc (d + 1) mc2 ms2 M (pc + 3) L (r.toList ++ rest) σ' Q) : Ev sc (d + 1) (mc1 + mc2) (ms1 + ms2) M pc L (as.reverse ++ .ref k :: rest) σ Q := by
  intro p l e R s m args below meth c D cA b ex H locs cells slots Qt ls hC hR hL hf hlo hce hsl hret
  obtain ⟨⟨w1, w2, w3, w4, w5⟩, w6, w7⟩ := hcv
  have hC' := hC
  obtain ⟨hx, hb, hml, hown, hts, hK, hX, hbl, hnm⟩ := hC
  have hpre := zz_pre hC' hR ((Value.ref k :: as).map (zz_tr b ex))
  have hk9 : k < σ.1.length := (List.getElem?_eq_some_iff.mp hk).1
  have hadr : zz_ad b ex k = b + k := if_pos (Nat.lt_trans hk9 hR.2.1)
  have hrecv := va_recv hK.1 hR.2.2.1 (ci := ci) (q0 := k) hci (zz_ws_get hk)
  have hstk : (as.reverse ++ Value.ref k :: rest).map (zz_tr b ex) = (as.map (zz_tr b ex)).reverse ++ Value.ref (zz_ad b ex k) :: rest.map (zz_tr b ex) := by
    rw [List.map_append, List.map_reverse]; rfl
  rw [hstk]
  refine zz_go (Q1 := Q1) (a := #[]) (va_runV (C := M'.1.cls) (b := zz_ad b ex k) (As := as.map (zz_tr b ex)) (n := n) ⟨hx, hb, hml, hown, hts⟩ (hM l D cA b ex) ⟨callB_of n hts (zz_gw w1) rfl rfl rfl (hts _ w2) (hts _ w3) w4 ⟨by show d + 1 ≤ R.frames; omega, by show 8 + (M'.2.2.1 + 11) + 36 * d ≤ R.locals; omega⟩, hts _ w6, hts _ w7⟩ ⟨hpre.1, by rw [hadr, ← hq]; exact hrecv, hpre.2⟩ rfl (by rw [List.length_map]; exact hn) hL.1 rfl (lv_room (by rw [zz_cats]; exact hst)) hd ⟨by omega, by omega⟩) hR.2.2.2 ?_
  intro r σ' H1 locs1 hq1 hR1
  have h1 := kk r σ' hq1 p l e R s m args below meth c D cA b ex H1 locs1 (cells + mc1) (slots + ms1) Qt ls hC' hR1 hL hf hlo (by omega) (by omega) (fun pc' ls' r' σ'' H' locs' cells' slots' a1 a2 a3 a4 a5 => hret pc' ls' r' σ'' H' locs' cells' slots' a1 a2 (by omega) (by omega) a5)
  have e9 : (r.toList ++ rest).map (zz_tr b ex) = (r.map (zz_tr b ex)).toList ++ rest.map (zz_tr b ex) := by
    cases r <;> rfl
  rw [e9] at h1
  exact h1
theorem Ev.callS {sc : Nat × (Nat → Int32)} {d mc1 ms1 mc2 ms2 : Nat} {M : zz_MD} (M' : zz_MD) {pc : Nat} {L : List (Option Value)} {σ : zz_St} {Q : Option Value → zz_St → Prop} {idx n : Nat} (as rest : List Value) (Q1 : Option Value → zz_St → Prop)
    (hcv : zz_cS M M' idx n) (hd : decode M.2.1 pc = .ok (.invokestatic idx, 3)) (hn : as.length = n) (hst : (rest.map fun v => v.category).sum ≤ 8)
    (hM : EvM sc d mc1 ms1 M' as σ Q1) (kk : ∀ (r : Option Value) (σ' : zz_St), Q1 r σ' → Ev sc (d + 1) mc2 ms2 M (pc + 3) L (r.toList ++ rest) σ' Q) : Ev sc (d + 1) (mc1 + mc2) (ms1 + ms2) M pc L (as.reverse ++ rest) σ Q := by
  intro p l e R s m args below meth c D cA b ex H locs cells slots Qt ls hC hR hL hf hlo hce hsl hret
  obtain ⟨⟨w1, w2, w3, w4, w5⟩, w6⟩ := hcv
  have hC' := hC
  obtain ⟨hx, hb, hml, hown, hts, hK, hX, hbl, hnm⟩ := hC
  have hpre := zz_pre hC' hR (as.map (zz_tr b ex))
  have hstk : (as.reverse ++ rest).map (zz_tr b ex) = (as.map (zz_tr b ex)).reverse ++ rest.map (zz_tr b ex) := by
    rw [List.map_append, List.map_reverse]
  rw [hstk]
  refine zz_go (Q1 := Q1) (a := #[]) (va_runS (As := as.map (zz_tr b ex)) (n := n) ⟨hx, hb, hml, hown, hts⟩ (hM l D cA b ex) ⟨callB_of n hts (zz_gw w1) rfl rfl rfl (hts _ w2) (hts _ w3) w4 ⟨by show d + 1 ≤ R.frames; omega, by show 8 + (M'.2.2.1 + 11) + 36 * d ≤ R.locals; omega⟩, hts _ w6⟩ hpre rfl (by rw [List.length_map]; exact hn) hL.1 rfl (lv_room (by rw [zz_cats]; exact hst)) hd ⟨by omega, by omega⟩) hR.2.2.2 ?_
  intro r σ' H1 locs1 hq1 hR1
  have h1 := kk r σ' hq1 p l e R s m args below meth c D cA b ex H1 locs1 (cells + mc1) (slots + ms1) Qt ls hC' hR1 hL hf hlo (by omega) (by omega) (fun pc' ls' r' σ'' H' locs' cells' slots' a1 a2 a3 a4 a5 => hret pc' ls' r' σ'' H' locs' cells' slots' a1 a2 (by omega) (by omega) a5)
  have e9 : (r.toList ++ rest).map (zz_tr b ex) = (r.map (zz_tr b ex)).toList ++ rest.map (zz_tr b ex) := by
    cases r <;> rfl
  rw [e9] at h1
  exact h1
