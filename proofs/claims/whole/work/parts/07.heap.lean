/-! ===== the store's changes ===== -/
def zz_up (I : Nat → Nat → Int32) (k j : Nat) (v : Int32) : Nat → Nat → Int32 := fun a => if a = k then upd (I k) j v else I a
def zz_upL (J : Nat → Nat → Int64) (k j : Nat) (v : Int64) : Nat → Nat → Int64 := fun a => if a = k then vp_updL (J k) j v else J a
theorem zz_up_eq (I : Nat → Nat → Int32) (k j : Nat) (v : Int32) : zz_up I k j v k = upd (I k) j v := if_pos rfl
theorem zz_up_ne {I : Nat → Nat → Int32} {k j a : Nat} {v : Int32} (h : a ≠ k) : zz_up I k j v a = I a := if_neg h
theorem zz_upL_eq (J : Nat → Nat → Int64) (k j : Nat) (v : Int64) : zz_upL J k j v k = vp_updL (J k) j v := if_pos rfl
theorem zz_upL_ne {J : Nat → Nat → Int64} {k j a : Nat} {v : Int64} (h : a ≠ k) : zz_upL J k j v a = J a := if_neg h
theorem zz_ws_up {cA : Nat → ClassId} {b : Nat} {ex : Nat → Nat} {σ : zz_St} {k j : Nat} {v : Int32} {x : zz_SK} (hk : σ.1[k]? = some x) : zz_ws cA b ex (σ.1, zz_up σ.2.1 k j v, σ.2.2) = (zz_ws cA b ex σ).set k (b + k, zz_e cA b ex (upd (σ.2.1 k) j v) (σ.2.2 k) x) := by
  apply List.ext_getElem?
  intro a
  have hl : k < (zz_ws cA b ex σ).length := (List.getElem?_eq_some_iff.mp (zz_ws_get hk)).1
  rw [zz_ws_at]
  by_cases h : a = k
  · subst h
    rw [List.getElem?_set_self hl, hk]
    simp only [Option.map_some, zz_up_eq]
  · rw [List.getElem?_set_ne (Ne.symm h), zz_ws_at]
    simp only [zz_up_ne h]
theorem zz_ws_upL {cA : Nat → ClassId} {b : Nat} {ex : Nat → Nat} {σ : zz_St} {k j : Nat} {v : Int64} {x : zz_SK} (hk : σ.1[k]? = some x) : zz_ws cA b ex (σ.1, σ.2.1, zz_upL σ.2.2 k j v) = (zz_ws cA b ex σ).set k (b + k, zz_e cA b ex (σ.2.1 k) (vp_updL (σ.2.2 k) j v) x) := by
  apply List.ext_getElem?
  intro a
  have hl : k < (zz_ws cA b ex σ).length := (List.getElem?_eq_some_iff.mp (zz_ws_get hk)).1
  rw [zz_ws_at]
  by_cases h : a = k
  · subst h
    rw [List.getElem?_set_self hl, hk]
    simp only [Option.map_some, zz_upL_eq]
  · rw [List.getElem?_set_ne (Ne.symm h), zz_ws_at]
    simp only [zz_upL_ne h]
theorem zz_fv_set {b : Nat} {ex : Nat → Nat} {g : Nat → Int32} {j : Nat} {v : Int32} {fs : List (Option (Option Nat))} (hj : fs[j]? = some none) : fs.mapIdx (fun i y => zz_fv b ex (upd g j v) i y) = (fs.mapIdx (fun i y => zz_fv b ex g i y)).set j (.int v) := by
  apply List.ext_getElem?
  intro a
  have hl : j < (fs.mapIdx (fun i y => zz_fv b ex g i y)).length := by
    rw [List.length_mapIdx]; exact (List.getElem?_eq_some_iff.mp hj).1
  rw [List.getElem?_mapIdx]
  by_cases h : a = j
  · subst h
    rw [List.getElem?_set_self hl, hj]
    simp [zz_fv, upd]
  · rw [List.getElem?_set_ne (Ne.symm h), List.getElem?_mapIdx]
    cases fs[a]? with
    | none => rfl
    | some y => cases y with
      | none => simp [zz_fv, upd, h]
      | some z => cases z <;> simp [zz_fv]
def zz_val (I : Nat → Nat → Int32) (k j : Nat) (x : Option (Option Nat)) : Option Value := match x with
  | none => some (.int (I k j))
  | some (some q) => some (.ref q)
  | some none => none
section ZZP
variable {p : Program} {l : Launch} {e : Env} {R : Room} {s : State} {m : MethodId} {args : Array Value} {below : List Frame} {meth : Method} {c : Code} {H : Heap} {locs : List Loc} {cells slots : Nat} {Qt : State → Prop}
variable {cc : ByteArray} {pc : Nat} {ls : Array Slot} {rest : List Value} {D : va_G} {cl : List vw_C} {A : Nat → Prop} {a : Nat} {tys : List (ClassId × FieldType)} {ws : va_W} {H0 : Heap}
/-- a field that is not final is written: the heap keeps its size -/
theorem zz_put (hexec : p.tables.exec = Jvm.exec) (hb : c.code = cc) {own C : String} {T : u_T} {N ci index : Nat} {Ts : List Cond} (hts : ∀ w ∈ Ts, w.before args s = true) (hin : ∀ w ∈ u_ws C T N, w ∈ Ts) (ty0 : Nat → FieldType) (hty : ∀ k, k < N → parseFieldDescriptor (T k).2.2.1 = some (ty0 k)) (hnm : ∀ a, a < N → ∀ b, b < N → a ≠ b → (T a).2.1 ≠ (T b).2.1) (hown : s.vm.findClass own = some m.cls) (hK : va_K D cl tys s) (hP : va_P D cl ws H) (hD : va_D A ws) (hS0 : va_S A H0 H locs) (q0 : Nat) {fs : List Value} (he : ws[q0]? = some (a, .inr (ci, fs))) (hc : cl[ci]? = some (C, T, N)) (k : Nat) (hk : k < N) (hlink : (Cond.fieldLink own index (T k).1 (T k).2.1 (T k).2.2.1).before args s = true) (hfin : (T k).2.2.2 = false) {ty : FieldType} {v : Value} (hd : parseFieldDescriptor (T k).2.2.1 = some ty) (hn : narrow ty v = v) (hfit : fits ty v = true) (hl : k < fs.length)
    (hdg : decode cc pc = .ok (.putfield index, 3)) (kk : ∀ (H1 : Heap) (locs1 : List Loc), H1.size = H.size → va_P D cl (ws.set q0 (a, .inr (ci, fs.set k v))) H1 → va_S A H0 H1 locs1 → W p l e R s m args below meth c H1 locs1 cells slots Qt (F0 m (pc + 3) ls rest)) : W p l e R s m args below meth c H locs cells slots Qt (F0 m pc ls (v :: .ref a :: rest)) := by
  have hap := va_apart (own := own) hts hin ty0 hty hnm hK hc
  obtain ⟨r, h1, cell, q1, q2, q3, q4⟩ := hP q0 _ he
  have hr : r = (C, T, N) := Option.some.inj (h1.symm.trans hc)
  subst hr
  obtain ⟨hSl, hfc, kC, hkC, hkind⟩ := hK.1 ci _ hc
  obtain ⟨cf, kf, fi, f, hi, hsl⟩ := hSl k hk
  have hlay := hts _ (hin _ (u_in_lay hk))
  unfold u_lay at hlay
  rw [if_neg (by rw [hfin]; decide)] at hlay
  have hst := (u_facts hfc hkC (u_lays hts hin hk) hi).1
  have h6 := u_store hfc hkC hkind hlay hi hd hn hfit
  refine W.putK hexec hb (f := f) ⟨hown, hlink, ⟨_, _, _, hi⟩, hst⟩ (by rw [q2]; exact h6) q1 q3 (by rw [hsl]; exact k2_hasslot (q4 k hk)) rfl rfl hdg fun H' e1 e2 e3 => ?_
  rw [hsl] at e1 ⊢
  exact kk H' _ e2 (hP.set hD he ⟨_, hc, t_OB.to (V := updV (vp_V fs) k v) ⟨_, e1, q2, q3, t_set q4 hap hk v⟩ (fun j _ => vp_updV_set hl v j)⟩ e3) (hS0.put e2 e3 (hD.2 q0 _ he))
theorem zz_iast (hexec : p.tables.exec = Jvm.exec) (hb : c.code = cc) (hK : va_K D cl tys s) (hP : va_P D cl ws H) (hD : va_D A ws) (hS : va_S A H0 H locs) (q0 t0 : Nat) {cA : ClassId} {n : Nat} {f : Nat → Int32} (ha : ws[q0]? = some (a, .inl (cA, n, .inl f))) (ht : tys[t0]? = some (cA, .int)) {i : Int32} {x : Int32} (hin : vp_in i n) (hdg : decode cc pc = .ok (.iastore, 1))
    (kk : ∀ (H1 : Heap) (locs1 : List Loc), H1.size = H.size → va_P D cl (ws.set q0 (a, .inl (cA, n, .inl (upd f i.toNatClampNeg x)))) H1 → va_S A H0 H1 locs1 → W p l e R s m args below meth c H1 locs1 cells slots Qt (F0 m (pc + 1) ls rest)) : W p l e R s m args below meth c H locs cells slots Qt (F0 m pc ls (.int x :: .int i :: .ref a :: rest)) := by
  refine W.iast hexec hb (hP q0 _ ha) ((hK.2 t0 _ ht).1 n (fun j => .int (f j))) (fun q => by cases q) (by show ¬ (i < 0 ∨ (arrV _ _ _).slots.size ≤ _); rw [arrV_size]; exact hin) rfl rfl hdg fun H1 e z oq => ?_
  refine kk H1 _ z (hP.set hD ha ?_ oq) (hS.put z oq (hD.2 q0 _ ha))
  show H1[a]? = some (vp_cell _ _)
  rw [e, vp_cell_i, vp_cell_i, arrV_store]
  congr 2
  funext q
  by_cases hq : q = i.toNatClampNeg
  · subst hq
    simp [updV, upd]
  · simp [updV, upd, hq]
theorem zz_zast (hexec : p.tables.exec = Jvm.exec) (hb : c.code = cc) (hK : va_K D cl tys s) (hP : va_P D cl ws H) (hD : va_D A ws) (hS : va_S A H0 H locs) (q0 t0 : Nat) {cA : ClassId} {n : Nat} {f : Nat → Int32} (ha : ws[q0]? = some (a, .inl (cA, n, .inl f))) (ht : tys[t0]? = some (cA, .boolean)) {i : Int32} {x : Int32} (hin : vp_in i n) (hdg : decode cc pc = .ok (.bastore, 1))
    (kk : ∀ (H1 : Heap) (locs1 : List Loc), H1.size = H.size → va_P D cl (ws.set q0 (a, .inl (cA, n, .inl (upd f i.toNatClampNeg (vp_nar .boolean x))))) H1 → va_S A H0 H1 locs1 → W p l e R s m args below meth c H1 locs1 cells slots Qt (F0 m (pc + 1) ls rest)) : W p l e R s m args below meth c H locs cells slots Qt (F0 m pc ls (.int x :: .int i :: .ref a :: rest)) := by
  refine W.zast hexec hb (hP q0 _ ha) ((hK.2 t0 _ ht).1 n (fun j => .int (f j))) (fun q => by cases q) (by show ¬ (i < 0 ∨ (arrV _ _ _).slots.size ≤ _); rw [arrV_size]; exact hin) rfl rfl hdg fun H1 e z oq => ?_
  refine kk H1 _ z (hP.set hD ha ?_ oq) (hS.put z oq (hD.2 q0 _ ha))
  show H1[a]? = some (vp_cell _ _)
  rw [e, vp_cell_i, vp_cell_i, arrV_store]
  congr 2
  funext q
  by_cases hq : q = i.toNatClampNeg
  · subst hq
    simp [updV, upd, vp_nar]
    try rfl
  · simp [updV, upd, hq]
theorem zz_last (hexec : p.tables.exec = Jvm.exec) (hb : c.code = cc) (hK : va_K D cl tys s) (hP : va_P D cl ws H) (hD : va_D A ws) (hS : va_S A H0 H locs) (q0 t0 : Nat) {cA : ClassId} {n : Nat} {f : Nat → Int64} (ha : ws[q0]? = some (a, .inl (cA, n, .inr (.inl f)))) (ht : tys[t0]? = some (cA, .long)) {i : Int32} {x : Int64} (hin : vp_in i n) (hdg : decode cc pc = .ok (.lastore, 1))
    (kk : ∀ (H1 : Heap) (locs1 : List Loc), H1.size = H.size → va_P D cl (ws.set q0 (a, .inl (cA, n, .inr (.inl (vp_updL f i.toNatClampNeg x))))) H1 → va_S A H0 H1 locs1 → W p l e R s m args below meth c H1 locs1 cells slots Qt (F0 m (pc + 1) ls rest)) : W p l e R s m args below meth c H locs cells slots Qt (F0 m pc ls (.long x :: .int i :: .ref a :: rest)) := by
  refine W.last hexec hb (hP q0 _ ha) ((hK.2 t0 _ ht).1 n (fun j => .long (f j))) (fun q => by cases q) (by show ¬ (i < 0 ∨ (arrV _ _ _).slots.size ≤ _); rw [arrV_size]; exact hin) rfl rfl hdg fun H1 e z oq => ?_
  refine kk H1 _ z (hP.set hD ha ?_ oq) (hS.put z oq (hD.2 q0 _ ha))
  show H1[a]? = some (vp_cell _ _)
  rw [e, vp_cell_l, vp_cell_l, arrV_store]
  congr 2
  funext q
  by_cases hq : q = i.toNatClampNeg
  · subst hq
    simp [updV, vp_updL]
  · simp [updV, vp_updL, hq]
theorem zz_aald (hexec : p.tables.exec = Jvm.exec) (hb : c.code = cc) (hK : va_K D cl tys s) (hP : va_P D cl ws H) (q0 t0 : Nat) {cA : ClassId} {ty : FieldType} {n : Nat} {f : Nat → Option Nat} (ha : ws[q0]? = some (a, .inl (cA, n, .inr (.inr (.inr (.inr f)))))) (ht : tys[t0]? = some (cA, ty)) (hty : ty.isReference = true) {i : Int32} (hin : vp_in i n) (hdg : decode cc pc = .ok (.aaload, 1))
    (kk : W p l e R s m args below meth c H locs cells slots Qt (F0 m (pc + 1) ls (va_rf (f i.toNatClampNeg) :: rest))) : W p l e R s m args below meth c H locs cells slots Qt (F0 m pc ls (.int i :: .ref a :: rest)) := by
  have hlt : i.toNatClampNeg < n := Nat.not_le.mp fun q => hin (Or.inr q)
  exact W.aald (v := va_rf (f i.toNatClampNeg)) (ty := ty) hexec hb (hP q0 _ ha) ((hK.2 t0 _ ht).1 n (fun j => va_rf (f j))) hty (fun q => by cases q) (by show ¬ (i < 0 ∨ (arrV _ _ _).slots.size ≤ _); rw [arrV_size]; exact hin) (by show (arrV _ _ _).slots[_]? = _; rw [arrV_read _ _ hlt]) rfl rfl hdg kk
end ZZP
section ZZH
variable {sc : Nat × (Nat → Int32)} {d mc ms : Nat} {M : zz_MD} {pc : Nat} {L : List (Option Value)} {S : List Value} {σ : zz_St} {Q : Option Value → zz_St → Prop}
theorem Ev.getf {k ci j idx : Nat} {fs : List (Option (Option Nat))} {x : Option (Option Nat)} {v : Value} (hoc : M.1.cls = zz_cn M.2.2.2.2) (hlk : zz_fl M.2.2.2.2 idx = some (ci, j)) (hd : decode M.2.1 pc = .ok (.getfield idx, 3)) (hk : σ.1[k]? = some (.inl (ci, fs))) (hf : fs[j]? = some x) (hv : zz_val σ.2.1 k j x = some v)
    (kk : Ev sc d mc ms M (pc + 3) L (v :: S) σ Q) : Ev sc d mc ms M pc L (.ref k :: S) σ Q := by
  intro p l e R s m args below meth c D cA b ex H locs cells slots Qt ls hC hR hL hf1 hlo hce hsl hret
  have K := kk p l e R s m args below meth c D cA b ex H locs cells slots Qt ls hC hR hL hf1 hlo hce hsl hret
  obtain ⟨hx, hb, hml, hown, hts, hK, hX, hbl, hnm⟩ := hC
  obtain ⟨h1, h2, h3⟩ := zz_fl_ok hlk
  have hk9 : k < σ.1.length := (List.getElem?_eq_some_iff.mp hk).1
  have hadr : zz_ad b ex k = b + k := if_pos (Nat.lt_trans hk9 hR.2.1)
  show W p l e R s m args below meth c H locs cells slots Qt (F0 m pc ls (.ref (zz_ad b ex k) :: S.map (zz_tr b ex)))
  rw [hadr]
  refine va_get (D := D) (ci := ci) (v := zz_tr b ex v) (own := M.1.cls) (C := zz_Rn ci) (T := zz_Tn ci) (N := zz_Nn ci) hx hb hts (zz_lays h1) hown hK.1 hR.2.2.1 k (zz_ws_get hk) (zz_cl_at h1) j h2 (hts _ (by rw [hoc]; exact h3)) (fun _ h9 => h9) ?_ hd K
  rw [List.getElem?_mapIdx, hf]
  cases x with
  | none => cases hv; rfl
  | some z => cases z with
    | none => cases hv
    | some q => cases hv; rfl
theorem Ev.putf {k ci j idx : Nat} {fs : List (Option (Option Nat))} {v : Int32} (hoc : M.1.cls = zz_cn M.2.2.2.2) (hlk : zz_fl M.2.2.2.2 idx = some (ci, j)) (hI : (zz_Tn ci j).2.2 = ("I", false)) (hd : decode M.2.1 pc = .ok (.putfield idx, 3)) (hk : σ.1[k]? = some (.inl (ci, fs))) (hf : fs[j]? = some none)
    (kk : Ev sc d mc ms M (pc + 3) L S (σ.1, zz_up σ.2.1 k j v, σ.2.2) Q) : Ev sc d mc ms M pc L (.int v :: .ref k :: S) σ Q := by
  intro p l e R s m args below meth c D cA b ex H locs cells slots Qt ls hC hR hL hf1 hlo hce hsl hret
  have K := fun H1 locs1 hR1 => kk p l e R s m args below meth c D cA b ex H1 locs1 cells slots Qt ls hC hR1 hL hf1 hlo hce hsl hret
  obtain ⟨hx, hb, hml, hown, hts, hK, hX, hbl, hnm⟩ := hC
  obtain ⟨h1, h2, h3⟩ := zz_fl_ok hlk
  have hk9 : k < σ.1.length := (List.getElem?_eq_some_iff.mp hk).1
  have hadr : zz_ad b ex k = b + k := if_pos (Nat.lt_trans hk9 hR.2.1)
  show W p l e R s m args below meth c H locs cells slots Qt (F0 m pc ls (.int v :: .ref (zz_ad b ex k) :: S.map (zz_tr b ex)))
  rw [hadr]
  have e1 : (zz_Tn ci j).2.2.1 = "I" := by rw [hI]
  refine zz_put (D := D) (ci := ci) (v := .int v) (ty := .int) (own := M.1.cls) (C := zz_Rn ci) (T := zz_Tn ci) (N := zz_Nn ci) hx hb hts (zz_lays h1) (zz_tn ci) (zz_tn_ok h1) (zz_nm_ok h1) hown hK.1 hR.2.2.1 (zz_ws_D cA b ex σ) hR.2.2.2 k (zz_ws_get hk) (zz_cl_at h1) j h2 (hts _ (by rw [hoc]; exact h3)) (by rw [hI]) (by rw [e1]; decide +kernel) rfl rfl (by rw [List.length_mapIdx]; exact (List.getElem?_eq_some_iff.mp hf).1) hd (fun H1 locs1 hz1 hP1 hS1 => K H1 locs1 ⟨hz1.trans hR.1, hR.2.1, ?_, hS1⟩)
  rw [zz_ws_up hk]
  have e2 := zz_fv_set (b := b) (ex := ex) (g := σ.2.1 k) (v := v) hf
  show va_P D zz_cl ((zz_ws cA b ex σ).set k (b + k, .inr (ci, fs.mapIdx (fun i y => zz_fv b ex (upd (σ.2.1 k) j v) i y)))) H1
  rw [e2]
  exact hP1
theorem Ev.iald0 {k n : Nat} {rs : List (Option Nat)} {i : Int32} (hd : decode M.2.1 pc = .ok (.iaload, 1)) (hk : σ.1[k]? = some (.inr (0, n, rs))) (hin : vp_in i n)
    (kk : Ev sc d mc ms M (pc + 1) L (.int (σ.2.1 k i.toNatClampNeg) :: S) σ Q) : Ev sc d mc ms M pc L (.int i :: .ref k :: S) σ Q := by
  intro p l e R s m args below meth c D cA b ex H locs cells slots Qt ls hC hR hL hf1 hlo hce hsl hret
  have K := kk p l e R s m args below meth c D cA b ex H locs cells slots Qt ls hC hR hL hf1 hlo hce hsl hret
  obtain ⟨hx, hb, hml, hown, hts, hK, hX, hbl, hnm⟩ := hC
  have hk9 : k < σ.1.length := (List.getElem?_eq_some_iff.mp hk).1
  have hadr : zz_ad b ex k = b + k := if_pos (Nat.lt_trans hk9 hR.2.1)
  show W p l e R s m args below meth c H locs cells slots Qt (F0 m pc ls (.int i :: .ref (zz_ad b ex k) :: S.map (zz_tr b ex)))
  rw [hadr]
  exact va_iald hx hb hK.1 hR.2.2.1 k 0 (zz_ws_get hk) rfl hin hd K
theorem Ev.zald0 {k n : Nat} {rs : List (Option Nat)} {i : Int32} (hd : decode M.2.1 pc = .ok (.baload, 1)) (hk : σ.1[k]? = some (.inr (2, n, rs))) (hin : vp_in i n)
    (kk : Ev sc d mc ms M (pc + 1) L (.int (σ.2.1 k i.toNatClampNeg) :: S) σ Q) : Ev sc d mc ms M pc L (.int i :: .ref k :: S) σ Q := by
  intro p l e R s m args below meth c D cA b ex H locs cells slots Qt ls hC hR hL hf1 hlo hce hsl hret
  have K := kk p l e R s m args below meth c D cA b ex H locs cells slots Qt ls hC hR hL hf1 hlo hce hsl hret
  obtain ⟨hx, hb, hml, hown, hts, hK, hX, hbl, hnm⟩ := hC
  have hk9 : k < σ.1.length := (List.getElem?_eq_some_iff.mp hk).1
  have hadr : zz_ad b ex k = b + k := if_pos (Nat.lt_trans hk9 hR.2.1)
  show W p l e R s m args below meth c H locs cells slots Qt (F0 m pc ls (.int i :: .ref (zz_ad b ex k) :: S.map (zz_tr b ex)))
  rw [hadr]
  exact va_zald hx hb hK.1 hR.2.2.1 k 2 (zz_ws_get hk) rfl hin hd K
theorem Ev.lald0 {k n : Nat} {rs : List (Option Nat)} {i : Int32} (hd : decode M.2.1 pc = .ok (.laload, 1)) (hk : σ.1[k]? = some (.inr (1, n, rs))) (hin : vp_in i n)
    (kk : Ev sc d mc ms M (pc + 1) L (.long (σ.2.2 k i.toNatClampNeg) :: S) σ Q) : Ev sc d mc ms M pc L (.int i :: .ref k :: S) σ Q := by
  intro p l e R s m args below meth c D cA b ex H locs cells slots Qt ls hC hR hL hf1 hlo hce hsl hret
  have K := kk p l e R s m args below meth c D cA b ex H locs cells slots Qt ls hC hR hL hf1 hlo hce hsl hret
  obtain ⟨hx, hb, hml, hown, hts, hK, hX, hbl, hnm⟩ := hC
  have hk9 : k < σ.1.length := (List.getElem?_eq_some_iff.mp hk).1
  have hadr : zz_ad b ex k = b + k := if_pos (Nat.lt_trans hk9 hR.2.1)
  show W p l e R s m args below meth c H locs cells slots Qt (F0 m pc ls (.int i :: .ref (zz_ad b ex k) :: S.map (zz_tr b ex)))
  rw [hadr]
  exact va_lald hx hb hK.1 hR.2.2.1 k 1 (zz_ws_get hk) rfl hin hd K
theorem Ev.aald0 {k n tg r : Nat} {rs : List (Option Nat)} {i : Int32} (hd : decode M.2.1 pc = .ok (.aaload, 1)) (hk : σ.1[k]? = some (.inr (tg, n, rs))) (htg : 3 ≤ tg ∧ tg ≤ 6) (hin : vp_in i n) (hr : rs[i.toNatClampNeg]? = some (some r))
    (kk : Ev sc d mc ms M (pc + 1) L (.ref r :: S) σ Q) : Ev sc d mc ms M pc L (.int i :: .ref k :: S) σ Q := by
  intro p l e R s m args below meth c D cA b ex H locs cells slots Qt ls hC hR hL hf1 hlo hce hsl hret
  have K := kk p l e R s m args below meth c D cA b ex H locs cells slots Qt ls hC hR hL hf1 hlo hce hsl hret
  obtain ⟨hx, hb, hml, hown, hts, hK, hX, hbl, hnm⟩ := hC
  have hk9 : k < σ.1.length := (List.getElem?_eq_some_iff.mp hk).1
  have hadr : zz_ad b ex k = b + k := if_pos (Nat.lt_trans hk9 hR.2.1)
  show W p l e R s m args below meth c H locs cells slots Qt (F0 m pc ls (.int i :: .ref (zz_ad b ex k) :: S.map (zz_tr b ex)))
  rw [hadr]
  have e1 : va_rf ((fun j => (rs[j]?.join).map (zz_ad b ex)) i.toNatClampNeg) = .ref (zz_ad b ex r) := by
    show va_rf ((rs[i.toNatClampNeg]?.join).map (zz_ad b ex)) = _
    rw [hr]; rfl
  have K2 : W p l e R s m args below meth c H locs cells slots Qt (F0 m (pc + 1) ls (va_rf ((fun j => (rs[j]?.join).map (zz_ad b ex)) i.toNatClampNeg) :: S.map (zz_tr b ex))) := by
    rw [e1]; exact K
  rcases (show tg = 3 ∨ tg = 4 ∨ tg = 5 ∨ tg = 6 by omega) with rfl | rfl | rfl | rfl
  · exact zz_aald hx hb hK.1 hR.2.2.1 k 3 (zz_ws_get hk) rfl rfl hin hd K2
  · exact zz_aald hx hb hK.1 hR.2.2.1 k 4 (zz_ws_get hk) rfl rfl hin hd K2
  · exact zz_aald hx hb hK.1 hR.2.2.1 k 5 (zz_ws_get hk) rfl rfl hin hd K2
  · exact zz_aald hx hb hK.1 hR.2.2.1 k 6 (zz_ws_get hk) rfl rfl hin hd K2
theorem Ev.iast0 {k n : Nat} {rs : List (Option Nat)} {i v : Int32} (hd : decode M.2.1 pc = .ok (.iastore, 1)) (hk : σ.1[k]? = some (.inr (0, n, rs))) (hin : vp_in i n)
    (kk : Ev sc d mc ms M (pc + 1) L S (σ.1, zz_up σ.2.1 k i.toNatClampNeg v, σ.2.2) Q) : Ev sc d mc ms M pc L (.int v :: .int i :: .ref k :: S) σ Q := by
  intro p l e R s m args below meth c D cA b ex H locs cells slots Qt ls hC hR hL hf1 hlo hce hsl hret
  have K := fun H1 locs1 hR1 => kk p l e R s m args below meth c D cA b ex H1 locs1 cells slots Qt ls hC hR1 hL hf1 hlo hce hsl hret
  obtain ⟨hx, hb, hml, hown, hts, hK, hX, hbl, hnm⟩ := hC
  have hk9 : k < σ.1.length := (List.getElem?_eq_some_iff.mp hk).1
  have hadr : zz_ad b ex k = b + k := if_pos (Nat.lt_trans hk9 hR.2.1)
  show W p l e R s m args below meth c H locs cells slots Qt (F0 m pc ls (.int v :: .int i :: .ref (zz_ad b ex k) :: S.map (zz_tr b ex)))
  rw [hadr]
  exact zz_iast hx hb hK.1 hR.2.2.1 (zz_ws_D cA b ex σ) hR.2.2.2 k 0 (zz_ws_get hk) rfl hin hd (fun H1 locs1 hz1 hP1 hS1 => K H1 locs1 ⟨hz1.trans hR.1, hR.2.1, by rw [zz_ws_up hk]; exact hP1, hS1⟩)
theorem Ev.zast0 {k n : Nat} {rs : List (Option Nat)} {i v : Int32} (hd : decode M.2.1 pc = .ok (.bastore, 1)) (hk : σ.1[k]? = some (.inr (2, n, rs))) (hin : vp_in i n)
    (kk : Ev sc d mc ms M (pc + 1) L S (σ.1, zz_up σ.2.1 k i.toNatClampNeg (vp_nar .boolean v), σ.2.2) Q) : Ev sc d mc ms M pc L (.int v :: .int i :: .ref k :: S) σ Q := by
  intro p l e R s m args below meth c D cA b ex H locs cells slots Qt ls hC hR hL hf1 hlo hce hsl hret
  have K := fun H1 locs1 hR1 => kk p l e R s m args below meth c D cA b ex H1 locs1 cells slots Qt ls hC hR1 hL hf1 hlo hce hsl hret
  obtain ⟨hx, hb, hml, hown, hts, hK, hX, hbl, hnm⟩ := hC
  have hk9 : k < σ.1.length := (List.getElem?_eq_some_iff.mp hk).1
  have hadr : zz_ad b ex k = b + k := if_pos (Nat.lt_trans hk9 hR.2.1)
  show W p l e R s m args below meth c H locs cells slots Qt (F0 m pc ls (.int v :: .int i :: .ref (zz_ad b ex k) :: S.map (zz_tr b ex)))
  rw [hadr]
  exact zz_zast hx hb hK.1 hR.2.2.1 (zz_ws_D cA b ex σ) hR.2.2.2 k 2 (zz_ws_get hk) rfl hin hd (fun H1 locs1 hz1 hP1 hS1 => K H1 locs1 ⟨hz1.trans hR.1, hR.2.1, by rw [zz_ws_up hk]; exact hP1, hS1⟩)
theorem Ev.last0 {k n : Nat} {rs : List (Option Nat)} {i : Int32} {v : Int64} (hd : decode M.2.1 pc = .ok (.lastore, 1)) (hk : σ.1[k]? = some (.inr (1, n, rs))) (hin : vp_in i n)
    (kk : Ev sc d mc ms M (pc + 1) L S (σ.1, σ.2.1, zz_upL σ.2.2 k i.toNatClampNeg v) Q) : Ev sc d mc ms M pc L (.long v :: .int i :: .ref k :: S) σ Q := by
  intro p l e R s m args below meth c D cA b ex H locs cells slots Qt ls hC hR hL hf1 hlo hce hsl hret
  have K := fun H1 locs1 hR1 => kk p l e R s m args below meth c D cA b ex H1 locs1 cells slots Qt ls hC hR1 hL hf1 hlo hce hsl hret
  obtain ⟨hx, hb, hml, hown, hts, hK, hX, hbl, hnm⟩ := hC
  have hk9 : k < σ.1.length := (List.getElem?_eq_some_iff.mp hk).1
  have hadr : zz_ad b ex k = b + k := if_pos (Nat.lt_trans hk9 hR.2.1)
  show W p l e R s m args below meth c H locs cells slots Qt (F0 m pc ls (.long v :: .int i :: .ref (zz_ad b ex k) :: S.map (zz_tr b ex)))
  rw [hadr]
  exact zz_last hx hb hK.1 hR.2.2.1 (zz_ws_D cA b ex σ) hR.2.2.2 k 1 (zz_ws_get hk) rfl hin hd (fun H1 locs1 hz1 hP1 hS1 => K H1 locs1 ⟨hz1.trans hR.1, hR.2.1, by rw [zz_ws_upL hk]; exact hP1, hS1⟩)
end ZZH
