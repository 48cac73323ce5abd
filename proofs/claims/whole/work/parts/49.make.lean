/-! ===== cells are made: objects, arrays, arrays of arrays; their first fields; constructors are called ===== -/
theorem zz_ws_app {cA : Nat → ClassId} {b : Nat} {ex : Nat → Nat} {σ : zz_St} {x : zz_SK} : zz_ws cA b ex (σ.1 ++ [x], σ.2) = zz_ws cA b ex σ ++ [(b + σ.1.length, zz_e cA b ex (σ.2.1 σ.1.length) (σ.2.2 σ.1.length) x)] := by
  simp [zz_ws, List.mapIdx_append]
theorem zz_R.app {D : va_G} {cA : Nat → ClassId} {b : Nat} {ex : Nat → Nat} {σ : zz_St} {H0 H H1 : Heap} {locs : List Loc} {x : zz_SK} (hR : zz_R D cA b ex σ H0 H locs) (hl : σ.1.length + 1 < 100000) (z : H1.size = H.size + 1) (o : ∀ q : Nat, q < H.size → H1[q]? = H[q]?)
    (hx : va_at D zz_cl (H.size, zz_e cA b ex (σ.2.1 σ.1.length) (σ.2.2 σ.1.length) x) H1) : zz_R D cA b ex (σ.1 ++ [x], σ.2) H0 H1 locs := by
  obtain ⟨z1, z2, z3, z4⟩ := hR
  refine ⟨by rw [z, z1]; simp; omega, by simpa using hl, ?_, ⟨Nat.le_trans z4.1 (by omega), fun q h1 h2 => (o q (Nat.lt_of_lt_of_le h1 z4.1)).trans (z4.2.1 q h1 h2), z4.2.2⟩⟩
  rw [zz_ws_app]
  refine (z3.kept (fun k q hq => o q.1 ((z3 k q hq).lt))).app (fun k q hq => ?_)
  have hk : k < 1 := (List.getElem?_eq_some_iff.mp hq).1
  rw [show k = 0 by omega] at hq
  cases hq
  rw [← z1]
  exact hx
theorem zz_new_ref {b : Nat} {ex : Nat → Nat} {H : Heap} {n : Nat} (h : H.size = b + n) (hl : n + 1 < 100000) (S : List Value) : (Value.ref n :: S).map (zz_tr b ex) = .ref H.size :: S.map (zz_tr b ex) := by
  show Value.ref (zz_ad b ex n) :: _ = _
  rw [show zz_ad b ex n = H.size from by rw [h]; exact if_pos (by omega)]
def zz_df (ci : Nat) : List (Option (Option Nat)) := (List.range (zz_Nn ci)).map (fun j => if (zz_Tn ci j).2.2.1 = "I" then none else some none)
theorem zz_df_all : ∀ ci, ci < 7 → ∀ j, j < zz_Nn ci → (zz_tn ci j = .int ∧ (zz_df ci)[j]? = some none) ∨ ((zz_tn ci j).isReference = true ∧ (zz_df ci)[j]? = some (some none)) := by decide +kernel
theorem zz_dv_ref {t : FieldType} (h : t.isReference = true) : defaultValue t = .null := by
  cases t <;> first | rfl | (exact absurd h (by decide))
theorem zz_df_ok {ci : Nat} (h : ci < 7) {b : Nat} {ex : Nat → Nat} {g : Nat → Int32} (hg : ∀ j, g j = 0) : ∀ j, j < zz_Nn ci → defaultValue (zz_tn ci j) = vp_V ((zz_df ci).mapIdx (fun i y => zz_fv b ex g i y)) j := by
  intro j hj
  show _ = List.getD _ j _
  rw [List.getD_eq_getElem?_getD, List.getElem?_mapIdx]
  rcases zz_df_all ci h j hj with ⟨h1, h2⟩ | ⟨h1, h2⟩
  · rw [h1, h2]
    show defaultValue .int = Value.int (g j)
    rw [hg]
    rfl
  · rw [zz_dv_ref h1, h2]
    rfl
section ZZM
variable {sc : Nat × (Nat → Int32)} {d mc ms : Nat} {M : zz_MD} {pc : Nat} {L : List (Option Value)} {S : List Value} {σ : zz_St} {Q : Option Value → zz_St → Prop}
theorem Ev.new {idx ci : Nat} (hd : decode M.2.1 pc = .ok (.new idx, 3)) (hci : ci < 7) (w1 : Cond.classLink M.1.cls idx (zz_Rn ci) ∈ zz_WG) (w2 : Cond.instantiable (zz_Rn ci) (zz_Nn ci) ∈ zz_WG) (w3 : Cond.initialized (zz_Rn ci) ∈ zz_WG) (hl : σ.1.length + 1 < 100000) (hz : ∀ j, σ.2.1 σ.1.length j = 0)
    (kk : Ev sc d mc ms M (pc + 3) L (.ref σ.1.length :: S) (σ.1 ++ [.inl (ci, zz_df ci)], σ.2) Q) : Ev sc d (1 + mc) (zz_Nn ci + ms) M pc L S σ Q := by
  intro p l e R s m args below meth c D cA b ex H locs cells slots Qt ls hC hR hL hf1 hlo hce hsl hret
  have hC' := hC
  obtain ⟨hx, hb, hml, hown, hts, hK, hX, hbl, hnm⟩ := hC
  have hKn := hK.1.1 ci _ (zz_cl_at hci)
  refine W.newcK (n := zz_Nn ci) hx hb hown (hts _ w1) (hts _ w2) (hts _ w3) rfl hd (by omega) (by omega) hKn.2.1 rfl (fun H1 kC hkC e1 z1 o1 => ?_)
  have hR1 : zz_R D cA b ex (σ.1 ++ [.inl (ci, zz_df ci)], σ.2) s.heap H1 locs := hR.app hl z1 o1 ⟨_, zz_cl_at hci, (u_born (zz_tn ci) hts (zz_lays hci) hKn hkC e1 (zz_tn_ok hci)).to (zz_df_ok hci hz)⟩
  have K := kk p l e R s m args below meth c D cA b ex H1 locs (cells + 1) (slots + zz_Nn ci) Qt ls hC' hR1 hL hf1 hlo (by omega) (by omega) (fun pc' ls' r' σ'' H' locs' cells' slots' a1 a2 a3 a4 a5 => hret pc' ls' r' σ'' H' locs' cells' slots' a1 a2 (by omega) (by omega) a5)
  rw [zz_new_ref hR.1 hl] at K
  exact K
def zz_at (tg : Nat) : ArrayType := match tg with
  | 0 => .int
  | 1 => .long
  | _ => .boolean
theorem Ev.newa {tg n : Nat} {x : Int32} (hd : decode M.2.1 pc = .ok (.newarray (zz_at tg), 2)) (htg : tg < 3) (h0 : ¬ x < 0) (hn : x.toNatClampNeg = n) (hn2 : n ≤ 100000) (hl : σ.1.length + 1 < 100000) (hz : ∀ j, σ.2.1 σ.1.length j = 0) (hzJ : ∀ j, σ.2.2 σ.1.length j = 0)
    (kk : Ev sc d mc ms M (pc + 2) L (.ref σ.1.length :: S) (σ.1 ++ [.inr (tg, n, [])], σ.2) Q) : Ev sc d (1 + mc) (n + ms) M pc L (.int x :: S) σ Q := by
  intro p l e R s m args below meth c D cA b ex H locs cells slots Qt ls hC hR hL hf1 hlo hce hsl hret
  have hC' := hC
  obtain ⟨hx, hb, hml, hown, hts, hK, hX, hbl, hnm⟩ := hC
  have harr : Cond.arrayClass (newarray.typeOf (zz_at tg)) ∈ zz_WG := by
    rcases (show tg = 0 ∨ tg = 1 ∨ tg = 2 by omega) with rfl | rfl | rfl <;> decide +kernel
  have hby : n * componentBytes (newarray.typeOf (zz_at tg)) ≤ 536870912 := by
    rcases (show tg = 0 ∨ tg = 1 ∨ tg = 2 by omega) with rfl | rfl | rfl
    · show n * 4 ≤ _; omega
    · show n * 8 ≤ _; omega
    · show n * 1 ≤ _; omega
  refine va_newaK (N := n) hx hb (hts _ harr) rfl hd rfl h0 hn hby (by omega) (by omega) rfl (fun H1 cA' e1 z1 o1 hAr hNm => ?_)
  have hcA : cA' = cA tg := by
    rcases (show tg = 0 ∨ tg = 1 ∨ tg = 2 by omega) with rfl | rfl | rfl
    · exact Option.some.inj (hNm.symm.trans (hK.1.2 0 _ rfl).2)
    · exact Option.some.inj (hNm.symm.trans (hK.1.2 1 _ rfl).2)
    · exact Option.some.inj (hNm.symm.trans (hK.1.2 2 _ rfl).2)
  subst hcA
  have hR1 : zz_R D cA b ex (σ.1 ++ [.inr (tg, n, [])], σ.2) s.heap H1 locs := by
    refine hR.app hl z1 o1 ?_
    show H1[H.size]? = some (vp_cell _ _)
    rw [e1]
    rcases (show tg = 0 ∨ tg = 1 ∨ tg = 2 by omega) with rfl | rfl | rfl
    · show some _ = some (arrV (cA 0) n (fun j => .int (σ.2.1 σ.1.length j)))
      simp only [hz]; rfl
    · show some _ = some (arrV (cA 1) n (fun j => .long (σ.2.2 σ.1.length j)))
      simp only [hzJ]; rfl
    · show some _ = some (arrV (cA 2) n (fun j => .int (σ.2.1 σ.1.length j)))
      simp only [hz]; rfl
  have K := kk p l e R s m args below meth c D cA b ex H1 locs (cells + 1) (slots + n) Qt ls hC' hR1 hL hf1 hlo (by omega) (by omega) (fun pc' ls' r' σ'' H' locs' cells' slots' a1 a2 a3 a4 a5 => hret pc' ls' r' σ'' H' locs' cells' slots' a1 a2 (by omega) (by omega) a5)
  rw [zz_new_ref hR.1 hl] at K
  exact K
/-- of arrays of objects: the tag's class, its number -/
def zz_qc (tg : Nat) : Nat := if tg = 3 then 4 else 2
theorem Ev.newq {tg n idx : Nat} {x : Int32} (hd : decode M.2.1 pc = .ok (.anewarray idx, 3)) (htg : tg = 3 ∨ tg = 4) (w1 : Cond.classLink M.1.cls idx (zz_Rn (zz_qc tg)) ∈ zz_WG) (h0 : ¬ x < 0) (hn : x.toNatClampNeg = n) (hn2 : n ≤ 100000) (hl : σ.1.length + 1 < 100000)
    (kk : Ev sc d mc ms M (pc + 3) L (.ref σ.1.length :: S) (σ.1 ++ [.inr (tg, n, List.replicate n none)], σ.2) Q) : Ev sc d (1 + mc) (n + ms) M pc L (.int x :: S) σ Q := by
  intro p l e R s m args below meth c D cA b ex H locs cells slots Qt ls hC hR hL hf1 hlo hce hsl hret
  have hC' := hC
  obtain ⟨hx, hb, hml, hown, hts, hK, hX, hbl, hnm⟩ := hC
  subst hn
  have hover : (Cond.arrayOver (.object (zz_Rn (zz_qc tg)))).before args s = true := by
    rcases htg with rfl | rfl
    · exact zz_ao (Vm.Alike.refl _) (hK.2 (.arrayOver (.object RX4)) (by decide +kernel))
    · exact zz_ao (Vm.Alike.refl _) (hK.2 (.arrayOver (.object RX2)) (by decide +kernel))
  refine W.anew hx hb hown (hts _ w1) hover rfl hd rfl h0 (by omega) (by omega) (by omega) (fun cA' kA comp f1 f2 f3 f4 => ?_)
  have hcA : cA' = cA tg := by
    rcases htg with rfl | rfl
    · obtain ⟨_, _, _, _, _, q4⟩ := (hK.1.2 3 _ rfl).2
      exact Option.some.inj (f1.symm.trans q4)
    · obtain ⟨_, _, _, _, _, q4⟩ := (hK.1.2 4 _ rfl).2
      exact Option.some.inj (f1.symm.trans q4)
  subst hcA
  generalize hH1 : H.push ({ cls := cA tg, slots := Array.replicate x.toNatClampNeg .null, vm := .none } : Cell) = H1
  have z1 : H1.size = H.size + 1 := by rw [← hH1, Array.size_push]
  have e1 : H1[H.size]? = some (arrV (cA tg) x.toNatClampNeg (fun _ => .null)) := by rw [← hH1, Array.getElem?_push_size, ← arrV_new]
  have o1 : ∀ q : Nat, q < H.size → H1[q]? = H[q]? := fun q hq => by rw [← hH1, Array.getElem?_push, if_neg (Nat.ne_of_lt hq)]
  have hR1 : zz_R D cA b ex (σ.1 ++ [.inr (tg, x.toNatClampNeg, List.replicate x.toNatClampNeg none)], σ.2) s.heap H1 locs := by
    refine hR.app hl z1 o1 ?_
    show H1[H.size]? = some (vp_cell _ _)
    rw [e1]
    have e2 : ∀ j : Nat, ((List.replicate x.toNatClampNeg (none : Option Nat))[j]?.join).map (zz_ad b ex) = none := by
      intro j
      rw [List.getElem?_replicate]
      split <;> rfl
    rcases htg with rfl | rfl
    · show some _ = some (arrV (cA 3) _ (fun j => va_rf (((List.replicate x.toNatClampNeg (none : Option Nat))[j]?.join).map (zz_ad b ex))))
      simp only [e2]; rfl
    · show some _ = some (arrV (cA 4) _ (fun j => va_rf (((List.replicate x.toNatClampNeg (none : Option Nat))[j]?.join).map (zz_ad b ex))))
      simp only [e2]; rfl
  have K := kk p l e R s m args below meth c D cA b ex H1 locs (cells + 1) (slots + x.toNatClampNeg) Qt ls hC' hR1 hL hf1 hlo (by omega) (by omega) (fun pc' ls' r' σ'' H' locs' cells' slots' a1 a2 a3 a4 a5 => hret pc' ls' r' σ'' H' locs' cells' slots' a1 a2 (by omega) (by omega) a5)
  rw [zz_new_ref hR.1 hl] at K
  exact K
end ZZM
theorem zz_ws_sh {cA : Nat → ClassId} {b : Nat} {ex : Nat → Nat} {σ : zz_St} {k : Nat} {x y : zz_SK} (hk : σ.1[k]? = some x) : zz_ws cA b ex (σ.1.set k y, σ.2) = (zz_ws cA b ex σ).set k (b + k, zz_e cA b ex (σ.2.1 k) (σ.2.2 k) y) := by
  apply List.ext_getElem?
  intro a
  have hl : k < (zz_ws cA b ex σ).length := (List.getElem?_eq_some_iff.mp (zz_ws_get hk)).1
  have hl2 : k < σ.1.length := (List.getElem?_eq_some_iff.mp hk).1
  rw [zz_ws_at]
  by_cases h : a = k
  · subst h
    rw [List.getElem?_set_self hl]
    show Option.map _ ((σ.1.set a y)[a]?) = _
    rw [List.getElem?_set_self hl2]
    rfl
  · show Option.map _ ((σ.1.set k y)[a]?) = _
    rw [List.getElem?_set_ne (Ne.symm h), List.getElem?_set_ne (Ne.symm h), zz_ws_at]
theorem zz_fv_setr {b : Nat} {ex : Nat → Nat} {g : Nat → Int32} {j q : Nat} {fs : List (Option (Option Nat))} (hj : j < fs.length) : (fs.set j (some (some q))).mapIdx (fun i y => zz_fv b ex g i y) = (fs.mapIdx (fun i y => zz_fv b ex g i y)).set j (.ref (zz_ad b ex q)) := by
  apply List.ext_getElem?
  intro a
  rw [List.getElem?_mapIdx]
  by_cases h : a = j
  · subst h
    rw [List.getElem?_set_self hj, List.getElem?_set_self (by rw [List.length_mapIdx]; exact hj)]
    rfl
  · rw [List.getElem?_set_ne (Ne.symm h), List.getElem?_set_ne (Ne.symm h), List.getElem?_mapIdx]
section ZZF
variable {p : Program} {l : Launch} {e : Env} {R : Room} {s : State} {m : MethodId} {args : Array Value} {below : List Frame} {meth : Method} {c : Code} {H : Heap} {locs : List Loc} {cells slots : Nat} {Qt : State → Prop}
variable {cc : ByteArray} {pc : Nat} {ls : Array Slot} {rest : List Value} {D : va_G} {cl : List vw_C} {A : Nat → Prop} {a : Nat} {tys : List (ClassId × FieldType)} {ws : va_W} {H0 : Heap}
/-- a final field, in its constructor: the heap keeps its size -/
theorem zz_putF (hexec : p.tables.exec = Jvm.exec) (hb : c.code = cc) {own C : String} {T : u_T} {N ci index : Nat} {Ts : List Cond} (hts : ∀ w ∈ Ts, w.before args s = true) (hin : ∀ w ∈ u_ws C T N, w ∈ Ts) (ty0 : Nat → FieldType) (hty : ∀ k, k < N → parseFieldDescriptor (T k).2.2.1 = some (ty0 k)) (hnm : ∀ a, a < N → ∀ b, b < N → a ≠ b → (T a).2.1 ≠ (T b).2.1) (hown : s.vm.findClass own = some m.cls) (hK : va_K D cl tys s) (hP : va_P D cl ws H) (hD : va_D A ws) (hS0 : va_S A H0 H locs) (q0 : Nat) {fs : List Value} (he : ws[q0]? = some (a, .inr (ci, fs))) (hc : cl[ci]? = some (C, T, N)) (k : Nat) (hk : k < N) (hlink : (Cond.fieldLink own index (T k).1 (T k).2.1 (T k).2.2.1).before args s = true) (hfin : (T k).2.2.2 = true) (hin2 : meth.name = "<init>") (hdecl : (T k).1 = own) {ty : FieldType} {v : Value} (hd : parseFieldDescriptor (T k).2.2.1 = some ty) (hn : narrow ty v = v) (hfit : fits ty v = true) (hl : k < fs.length)
    (hdg : decode cc pc = .ok (.putfield index, 3)) (kk : ∀ (H1 : Heap) (locs1 : List Loc), H1.size = H.size → va_P D cl (ws.set q0 (a, .inr (ci, fs.set k v))) H1 → va_S A H0 H1 locs1 → W p l e R s m args below meth c H1 locs1 cells slots Qt (F0 m (pc + 3) ls rest)) : W p l e R s m args below meth c H locs cells slots Qt (F0 m pc ls (v :: .ref a :: rest)) := by
  have hap := va_apart (own := own) hts hin ty0 hty hnm hK hc
  obtain ⟨r, h1, cell, q1, q2, q3, q4⟩ := hP q0 _ he
  have hr : r = (C, T, N) := Option.some.inj (h1.symm.trans hc)
  subst hr
  obtain ⟨hSl, hfc, kC, hkC, hkind⟩ := hK.1 ci _ hc
  obtain ⟨cf, kf, fi, f, hi, hsl⟩ := hSl k hk
  have hlay := hts _ (hin _ (u_in_lay hk))
  unfold u_lay at hlay
  rw [if_pos hfin] at hlay
  have hst := (u_facts hfc hkC (u_lays hts hin hk) hi).1
  have hcf : m.cls = cf := by
    obtain ⟨_, _, c', _, _, _, -, -, hf', -, -, -, hown2, -⟩ := Cond.laysFinal_spec hlay
    have e1 : c' = cf := by
      have h9 := hi.symm.trans hf'
      simp at h9
      exact h9.1.symm
    rw [hdecl] at hown2
    rw [← e1]
    exact Option.some.inj (hown.symm.trans hown2)
  have h6 := u_fits hfc hkC hkind (Or.inr hlay) hi hd hn hfit
  refine W.putFinK hexec hb hown hlink hi hst hcf hin2 (by rw [q2]; exact h6) q1 q3 (by rw [hsl]; exact k2_hasslot (q4 k hk)) rfl rfl hdg fun H' e1 e2 e3 => ?_
  rw [hsl] at e1 ⊢
  exact kk H' _ e2 (hP.set hD he ⟨_, hc, t_OB.to (V := updV (vp_V fs) k v) ⟨_, e1, q2, q3, t_set q4 hap hk v⟩ (fun j _ => vp_updV_set hl v j)⟩ e3) (hS0.put e2 e3 (hD.2 q0 _ he))
/-- an object is laid into an array of its class: the heap keeps its size -/
theorem zz_astq (hexec : p.tables.exec = Jvm.exec) (hb : c.code = cc) (hK : va_K D cl tys s) (hP : va_P D cl ws H) (hD : va_D A ws) (hS : va_S A H0 H locs) (q0 t0 qk ci : Nat) {cA : ClassId} {r : vw_C} {n v : Nat} {vs : List Value} {f : Nat → Option Nat} (ha : ws[q0]? = some (a, .inl (cA, n, .inr (.inr (.inr (.inr f)))))) (ht : tys[t0]? = some (cA, .object r.1)) (hv : ws[qk]? = some (v, .inr (ci, vs))) (hc : cl[ci]? = some r) {i : Int32} (hin : vp_in i n) (hdg : decode cc pc = .ok (.aastore, 1))
    (kk : ∀ (H1 : Heap) (locs1 : List Loc), H1.size = H.size → va_P D cl (ws.set q0 (a, .inl (cA, n, .inr (.inr (.inr (.inr (va_up f i.toNatClampNeg (some v)))))))) H1 → va_S A H0 H1 locs1 → W p l e R s m args below meth c H1 locs1 cells slots Qt (F0 m (pc + 1) ls rest)) : W p l e R s m args below meth c H locs cells slots Qt (F0 m pc ls (.ref v :: .int i :: .ref a :: rest)) := by
  have hlt : i.toNatClampNeg < n := Nat.not_le.mp fun q => hin (Or.inr q)
  have h0 : ¬ i < 0 := fun q => hin (Or.inl q)
  obtain ⟨r', hr', cellV, g1, g2, g3, -⟩ := hP qk _ hv
  have hcls := (hK.1 ci r hc).2
  obtain ⟨kA, comp, k1, k2, k3, -⟩ := (hK.2 t0 _ ht).2
  have hcomp : comp = D.1 ci := Option.some.inj (k3.symm.trans hcls.1)
  subst hcomp
  obtain ⟨kC, hkC, -⟩ := hcls.2
  refine W.aast hexec hb (hP q0 _ ha) (fun q h => by cases h) (fun h => by cases h) k1 k2 rfl hkC ⟨h0, by show _ < (arrV _ _ _).slots.size; rw [arrV_size]; exact hlt⟩ g1 (fun q h => by rw [g3] at h; cases h) (by rw [g2]; exact hkC) (by rw [g2]; exact va_assign hcls) rfl rfl hdg fun H1 e z oq => ?_
  refine kk H1 _ z (hP.set hD ha ?_ oq) (hS.put z oq (hD.2 q0 _ ha))
  show H1[a]? = some (vp_cell _ _)
  rw [e, vp_cell_q, vp_cell_q, arrV_store]
  congr 2
  funext q
  by_cases hq : q = i.toNatClampNeg
  · subst hq
    simp [updV, va_up, va_rf]
  · simp [updV, va_up, hq]
end ZZF
section ZZN
variable {sc : Nat × (Nat → Int32)} {d mc ms : Nat} {M : zz_MD} {pc : Nat} {L : List (Option Value)} {S : List Value} {σ : zz_St} {Q : Option Value → zz_St → Prop}
theorem zz_ref_ok {t : FieldType} (h : t.isReference = true) (a : Nat) : narrow t (.ref a) = .ref a ∧ fits t (.ref a) = true := by
  cases t <;> first | exact ⟨rfl, rfl⟩ | (exact absurd h (by decide))
theorem Ev.putr {k ci j idx q : Nat} {fs : List (Option (Option Nat))} (hoc : M.1.cls = zz_cn M.2.2.2.2) (hin : M.1.name = "<init>") (hlk : zz_fl M.2.2.2.2 idx = some (ci, j)) (hI : (zz_Tn ci j).2.2.2 = true ∧ (zz_Tn ci j).1 = M.1.cls) (hd : decode M.2.1 pc = .ok (.putfield idx, 3)) (hk : σ.1[k]? = some (.inl (ci, fs))) (hf : fs[j]? = some (some none)) (hty : (zz_tn ci j).isReference = true)
    (kk : Ev sc d mc ms M (pc + 3) L S (σ.1.set k (.inl (ci, fs.set j (some (some q)))), σ.2) Q) : Ev sc d mc ms M pc L (.ref q :: .ref k :: S) σ Q := by
  intro p l e R s m args below meth c D cA b ex H locs cells slots Qt ls hC hR hL hf1 hlo hce hsl hret
  have K := fun H1 locs1 hR1 => kk p l e R s m args below meth c D cA b ex H1 locs1 cells slots Qt ls hC hR1 hL hf1 hlo hce hsl hret
  obtain ⟨hx, hb, hml, hown, hts, hK, hX, hbl, hnm⟩ := hC
  obtain ⟨h1, h2, h3⟩ := zz_fl_ok hlk
  have hk9 : k < σ.1.length := (List.getElem?_eq_some_iff.mp hk).1
  have hadr : zz_ad b ex k = b + k := if_pos (Nat.lt_trans hk9 hR.2.1)
  have hj9 : j < fs.length := (List.getElem?_eq_some_iff.mp hf).1
  show W p l e R s m args below meth c H locs cells slots Qt (F0 m pc ls (.ref (zz_ad b ex q) :: .ref (zz_ad b ex k) :: S.map (zz_tr b ex)))
  rw [hadr]
  refine zz_putF (D := D) (ci := ci) (v := .ref (zz_ad b ex q)) (ty := zz_tn ci j) (own := M.1.cls) (C := zz_Rn ci) (T := zz_Tn ci) (N := zz_Nn ci) hx hb hts (zz_lays h1) (zz_tn ci) (zz_tn_ok h1) (zz_nm_ok h1) hown hK.1 hR.2.2.1 (zz_ws_D cA b ex σ) hR.2.2.2 k (zz_ws_get hk) (zz_cl_at h1) j h2 (hts _ (by rw [hoc]; exact h3)) hI.1 (hnm.trans hin) hI.2 (zz_tn_ok h1 j h2) (zz_ref_ok hty _).1 (zz_ref_ok hty _).2 (by rw [List.length_mapIdx]; exact hj9) hd (fun H1 locs1 hz1 hP1 hS1 => K H1 locs1 ⟨hz1.trans (by rw [hR.1]; simp), by simpa using hR.2.1, ?_, hS1⟩)
  rw [zz_ws_sh hk]
  show va_P D zz_cl ((zz_ws cA b ex σ).set k (b + k, .inr (ci, (fs.set j (some (some q))).mapIdx (fun i y => zz_fv b ex (σ.2.1 k) i y)))) H1
  rw [zz_fv_setr hj9]
  exact hP1
theorem Ev.aast {k n tg q : Nat} {rs : List (Option Nat)} {fs : List (Option (Option Nat))} {i : Int32} (hd : decode M.2.1 pc = .ok (.aastore, 1)) (hk : σ.1[k]? = some (.inr (tg, n, rs))) (htg : tg = 3 ∨ tg = 4) (hq : σ.1[q]? = some (.inl (zz_qc tg, fs))) (hin : vp_in i n) (hrs : rs.length = n)
    (kk : Ev sc d mc ms M (pc + 1) L S (σ.1.set k (.inr (tg, n, rs.set i.toNatClampNeg (some q))), σ.2) Q) : Ev sc d mc ms M pc L (.ref q :: .int i :: .ref k :: S) σ Q := by
  intro p l e R s m args below meth c D cA b ex H locs cells slots Qt ls hC hR hL hf1 hlo hce hsl hret
  have K := fun H1 locs1 hR1 => kk p l e R s m args below meth c D cA b ex H1 locs1 cells slots Qt ls hC hR1 hL hf1 hlo hce hsl hret
  obtain ⟨hx, hb, hml, hown, hts, hK, hX, hbl, hnm⟩ := hC
  have hk9 : k < σ.1.length := (List.getElem?_eq_some_iff.mp hk).1
  have hadr : zz_ad b ex k = b + k := if_pos (Nat.lt_trans hk9 hR.2.1)
  have hq9 : q < σ.1.length := (List.getElem?_eq_some_iff.mp hq).1
  have hadq : zz_ad b ex q = b + q := if_pos (Nat.lt_trans hq9 hR.2.1)
  have hlt : i.toNatClampNeg < n := Nat.not_le.mp fun q => hin (Or.inr q)
  show W p l e R s m args below meth c H locs cells slots Qt (F0 m pc ls (.ref (zz_ad b ex q) :: .int i :: .ref (zz_ad b ex k) :: S.map (zz_tr b ex)))
  rw [hadr, hadq]
  have e2 : (fun j => ((rs.set i.toNatClampNeg (some q))[j]?.join).map (zz_ad b ex)) = va_up (fun j => (rs[j]?.join).map (zz_ad b ex)) i.toNatClampNeg (some (b + q)) := by
    funext j
    by_cases h : j = i.toNatClampNeg
    · subst h
      rw [List.getElem?_set_self (by omega)]
      simp [va_up, hadq]
    · rw [List.getElem?_set_ne (Ne.symm h)]
      simp [va_up, h]
  have fin : ∀ (H1 : Heap) (locs1 : List Loc), H1.size = H.size → va_P D zz_cl ((zz_ws cA b ex σ).set k (b + k, .inl (cA tg, n, .inr (.inr (.inr (.inr (va_up (fun j => (rs[j]?.join).map (zz_ad b ex)) i.toNatClampNeg (some (b + q))))))))) H1 → va_S (fun q => b ≤ q) s.heap H1 locs1 → W p l e R s m args below meth c H1 locs1 cells slots Qt (F0 m (pc + 1) ls (S.map (zz_tr b ex))) := by
    intro H1 locs1 hz1 hP1 hS1
    refine K H1 locs1 ⟨hz1.trans (by rw [hR.1]; simp), by simpa using hR.2.1, ?_, hS1⟩
    rw [zz_ws_sh hk]
    rw [← e2] at hP1
    rcases htg with rfl | rfl
    · exact hP1
    · exact hP1
  rcases htg with rfl | rfl
  · exact zz_astq hx hb hK.1 hR.2.2.1 (zz_ws_D cA b ex σ) hR.2.2.2 k 3 q 4 (r := (RX4, TX4, 2)) (zz_ws_get hk) rfl (zz_ws_get hq) rfl hin hd fin
  · exact zz_astq hx hb hK.1 hR.2.2.1 (zz_ws_D cA b ex σ) hR.2.2.2 k 4 q 2 (r := (RX2, TX2, 12)) (zz_ws_get hk) rfl (zz_ws_get hq) rfl hin hd fin
theorem Ev.objInit {k idx : Nat} (hd : decode M.2.1 pc = .ok (.invokespecial idx, 3)) (w1 : Cond.methodLink M.1.cls idx Lib.objectInit ∈ zz_WG) (hst : (S.map fun v => v.category).sum ≤ 8)
    (kk : Ev sc (d + 1) mc ms M (pc + 3) L S σ Q) : Ev sc (d + 1) mc ms M pc L (.ref k :: S) σ Q := by
  intro p l e R s m args below meth c D cA b ex H locs cells slots Qt ls hC hR hL hf1 hlo hce hsl hret
  have K := kk p l e R s m args below meth c D cA b ex H locs cells slots Qt ls hC hR hL hf1 hlo hce hsl hret
  obtain ⟨hx, hb, hml, hown, hts, hK, hX, hbl, hnm⟩ := hC
  have hin : Cond.instanceMethod Lib.objectInit ∈ zz_WG ∧ Cond.code Lib.objectInit ⟨#[0xb1]⟩ 1 none ∈ zz_WG := by decide +kernel
  exact W.objInit hx hb hown (hts _ w1) (hts _ hin.1) (hts _ hin.2) rfl (by rw [hml]; exact hL.1) rfl hd (by omega) (by show 2 * 0 + _ + 12 ≤ _; rw [zz_cats]; omega) K
theorem Ev.callI {d : Nat} {mc1 ms1 mc2 ms2 : Nat} (M' : zz_MD) {idx n k : Nat} (as rest : List Value) (Q1 : Option Value → zz_St → Prop) (hr : M'.2.2.2.1 = none)
    (w1 : Cond.code M'.1 M'.2.1 M'.2.2.1 M'.2.2.2.1 ∈ zz_WG) (w2 : Cond.initialized M'.1.cls ∈ zz_WG) (w3 : Cond.methodLink M.1.cls idx M'.1 ∈ zz_WG) (w4 : M'.1.cls ≠ "java/lang/invoke/MethodHandle" ∧ M'.1.cls ≠ "java/lang/invoke/VarHandle" ∧ (parseMethodDescriptor M'.1.desc).map (fun d => d.parameters.length) = some n) (w5 : M'.2.2.1 ≤ 17) (w6 : Cond.instanceMethod M'.1 ∈ zz_WG) (w7 : M'.1.name = "<init>")
    (hd : decode M.2.1 pc = .ok (.invokespecial idx, 3)) (hn : as.length = n) (hst : (rest.map fun v => v.category).sum ≤ 8)
    (hM : EvM sc d mc1 ms1 M' (.ref k :: as) σ Q1) (kk : ∀ (r : Option Value) (σ' : zz_St), Q1 r σ' → Ev sc (d + 1) mc2 ms2 M (pc + 3) L (r.toList ++ rest) σ' Q) : Ev sc (d + 1) (mc1 + mc2) (ms1 + ms2) M pc L (as.reverse ++ .ref k :: rest) σ Q := by
  intro p l e R s m args below meth c D cA b ex H locs cells slots Qt ls hC hR hL hf hlo hce hsl hret
  obtain ⟨y, cc', nl, rt, oc'⟩ := M'
  dsimp only at hr
  subst hr
  have hC' := hC
  obtain ⟨hx, hb, hml, hown, hts, hK, hX, hbl, hnm⟩ := hC
  have hpre := zz_pre hC' hR ((Value.ref k :: as).map (zz_tr b ex))
  have hstk : (as.reverse ++ Value.ref k :: rest).map (zz_tr b ex) = (as.map (zz_tr b ex)).reverse ++ Value.ref (zz_ad b ex k) :: rest.map (zz_tr b ex) := by
    rw [List.map_append, List.map_reverse]; rfl
  rw [hstk]
  refine zz_go (Q1 := Q1) (a := #[]) (va_runI (b := zz_ad b ex k) (As := as.map (zz_tr b ex)) (n := n) ⟨hx, hb, hml, hown, hts⟩ (hM l D cA b ex) ⟨callB_of n hts (zz_gw w1) rfl rfl rfl (hts _ w2) (hts _ w3) w4 ⟨by show d + 1 ≤ R.frames; omega, by show 8 + (nl + 11) + 36 * d ≤ R.locals; dsimp only at w5; omega⟩, w7, hts _ w6⟩ hpre rfl (by rw [List.length_map]; exact hn) hL.1 rfl (lv_room (by rw [zz_cats]; exact hst)) hd ⟨by omega, by omega⟩) hR.2.2.2 ?_
  intro r σ' H1 locs1 hq1 hR1
  have h1 := kk r σ' hq1 p l e R s m args below meth c D cA b ex H1 locs1 (cells + mc1) (slots + ms1) Qt ls hC' hR1 hL hf hlo (by omega) (by omega) (fun pc' ls' r' σ'' H' locs' cells' slots' a1 a2 a3 a4 a5 => hret pc' ls' r' σ'' H' locs' cells' slots' a1 a2 (by omega) (by omega) a5)
  have e9 : (r.toList ++ rest).map (zz_tr b ex) = (r.map (zz_tr b ex)).toList ++ rest.map (zz_tr b ex) := by
    cases r <;> rfl
  rw [e9] at h1
  exact h1
theorem Ev.callIN {d : Nat} {mc1 ms1 mc2 ms2 : Nat} (M' : zz_MD) {idx n k : Nat} {host : String} (as rest : List Value) (Q1 : Option Value → zz_St → Prop) (hr : M'.2.2.2.1 = none)
    (w1 : Cond.code M'.1 M'.2.1 M'.2.2.1 M'.2.2.2.1 ∈ zz_WG) (w2 : Cond.initialized M'.1.cls ∈ zz_WG) (w3 : Cond.methodLinkNest M.1.cls idx M'.1 host ∈ zz_nest) (w4 : M'.1.cls ≠ "java/lang/invoke/MethodHandle" ∧ M'.1.cls ≠ "java/lang/invoke/VarHandle" ∧ (parseMethodDescriptor M'.1.desc).map (fun d => d.parameters.length) = some n) (w5 : M'.2.2.1 ≤ 17) (w6 : Cond.instanceMethod M'.1 ∈ zz_WG) (w7 : M'.1.name = "<init>")
    (hd : decode M.2.1 pc = .ok (.invokespecial idx, 3)) (hn : as.length = n) (hst : (rest.map fun v => v.category).sum ≤ 8)
    (hM : EvM sc d mc1 ms1 M' (.ref k :: as) σ Q1) (kk : ∀ (r : Option Value) (σ' : zz_St), Q1 r σ' → Ev sc (d + 1) mc2 ms2 M (pc + 3) L (r.toList ++ rest) σ' Q) : Ev sc (d + 1) (mc1 + mc2) (ms1 + ms2) M pc L (as.reverse ++ .ref k :: rest) σ Q := by
  intro p l e R s m args below meth c D cA b ex H locs cells slots Qt ls hC hR hL hf hlo hce hsl hret
  obtain ⟨y, cc', nl, rt, oc'⟩ := M'
  dsimp only at hr
  subst hr
  have hC' := hC
  obtain ⟨hx, hb, hml, hown, hts, hK, hX, hbl, hnm⟩ := hC
  have hpre := zz_pre hC' hR ((Value.ref k :: as).map (zz_tr b ex))
  have hstk : (as.reverse ++ Value.ref k :: rest).map (zz_tr b ex) = (as.map (zz_tr b ex)).reverse ++ Value.ref (zz_ad b ex k) :: rest.map (zz_tr b ex) := by
    rw [List.map_append, List.map_reverse]; rfl
  rw [hstk]
  refine zz_go (Q1 := Q1) (a := #[]) (va_runIN (b := zz_ad b ex k) (As := as.map (zz_tr b ex)) (n := n) ⟨hx, hb, hml, hown, hts⟩ (hM l D cA b ex) ⟨va_cnB n hts (zz_gw w1) rfl rfl rfl (hK.2 _ w3) (hts _ w2) w4 ⟨by show d + 1 ≤ R.frames; omega, by show 8 + (nl + 11) + 36 * d ≤ R.locals; dsimp only at w5; omega⟩, w7, hts _ w6⟩ hpre rfl (by rw [List.length_map]; exact hn) hL.1 rfl (lv_room (by rw [zz_cats]; exact hst)) hd ⟨by omega, by omega⟩) hR.2.2.2 ?_
  intro r σ' H1 locs1 hq1 hR1
  have h1 := kk r σ' hq1 p l e R s m args below meth c D cA b ex H1 locs1 (cells + mc1) (slots + ms1) Qt ls hC' hR1 hL hf hlo (by omega) (by omega) (fun pc' ls' r' σ'' H' locs' cells' slots' a1 a2 a3 a4 a5 => hret pc' ls' r' σ'' H' locs' cells' slots' a1 a2 (by omega) (by omega) a5)
  have e9 : (r.toList ++ rest).map (zz_tr b ex) = (r.map (zz_tr b ex)).toList ++ rest.map (zz_tr b ex) := by
    cases r <;> rfl
  rw [e9] at h1
  exact h1
end ZZN
/-! ===== an array of arrays ===== -/
def zz_mO (cO : ClassId) (n h i : Nat) : Cell := arrV cO n (fun j => if j < i then .ref (h + 1 + j) else .null)
theorem zz_mO_step (cO : ClassId) (n h i : Nat) : (zz_mO cO n h i).setSlot i (.ref (h + 1 + i)) = zz_mO cO n h (i + 1) := by
  unfold zz_mO
  rw [arrV_store]
  congr 1
  funext j
  by_cases hj : j = i
  · subst hj
    simp [updV]
  · simp only [updV, hj, if_false]
    by_cases h2 : j < i
    · rw [if_pos h2, if_pos (by omega)]
    · rw [if_neg h2, if_neg (by omega)]
def zz_mS (T : State) (cO cI : ClassId) (n q : Nat) (v : Value) : Nat → State
  | 0 => T.pushCell (zz_mO cO n T.heap.size 0)
  | i + 1 => ((zz_mS T cO cI n q v i).pushCell (arrV cI q (fun _ => v))).setCell T.heap.size (zz_mO cO n T.heap.size (i + 1))
theorem zz_mS_f (T : State) (cO cI : ClassId) (n q : Nat) (v : Value) : ∀ i, (zz_mS T cO cI n q v i).heap.size = T.heap.size + 1 + i ∧ (zz_mS T cO cI n q v i).heap[T.heap.size]? = some (zz_mO cO n T.heap.size i) ∧ (zz_mS T cO cI n q v i).vm = T.vm ∧ (zz_mS T cO cI n q v i).slotsUsed = T.slotsUsed + n + i * q ∧
    (∀ a : Nat, a < T.heap.size → (zz_mS T cO cI n q v i).heap[a]? = T.heap[a]?) ∧ ∀ j : Nat, j < i → (zz_mS T cO cI n q v i).heap[T.heap.size + 1 + j]? = some (arrV cI q (fun _ => v)) := by
  intro i
  induction i with
  | zero =>
    refine ⟨by simp [zz_mS, State.pushCell], by simp [zz_mS, State.pushCell], rfl, ?_, fun a ha => ?_, fun j hj => absurd hj (Nat.not_lt_zero _)⟩
    · show T.slotsUsed + (zz_mO cO n T.heap.size 0).slots.size = _
      unfold zz_mO
      rw [arrV_size]; omega
    · show (T.heap.push _)[a]? = _
      rw [Array.getElem?_push, if_neg (Nat.ne_of_lt ha)]
  | succ i ih =>
    obtain ⟨f1, f2, f3, f4, f5, f6⟩ := ih
    have hne : ∀ (a : Nat) (x y : Cell), a ≠ T.heap.size → (((zz_mS T cO cI n q v i).heap.push x).setIfInBounds T.heap.size y)[a]? = ((zz_mS T cO cI n q v i).heap.push x)[a]? := by
      intro a x y ha
      rw [Array.getElem?_setIfInBounds, if_neg (Ne.symm ha)]
    refine ⟨?_, ?_, f3, ?_, fun a ha => ?_, fun j hj => ?_⟩
    · show (((zz_mS T cO cI n q v i).heap.push _).setIfInBounds T.heap.size _).size = _
      rw [Array.size_setIfInBounds, Array.size_push, f1]; omega
    · show (((zz_mS T cO cI n q v i).heap.push _).setIfInBounds T.heap.size _)[T.heap.size]? = _
      rw [Array.getElem?_setIfInBounds, if_pos rfl, if_pos (by rw [Array.size_push, f1]; omega)]
    · show (zz_mS T cO cI n q v i).slotsUsed + (arrV cI q (fun _ => v)).slots.size = _
      rw [arrV_size, f4, Nat.succ_mul]; omega
    · show (((zz_mS T cO cI n q v i).heap.push _).setIfInBounds T.heap.size _)[a]? = _
      rw [hne _ _ _ (by omega), Array.getElem?_push, if_neg (by omega)]
      exact f5 a ha
    · show (((zz_mS T cO cI n q v i).heap.push _).setIfInBounds T.heap.size _)[T.heap.size + 1 + j]? = _
      rw [hne _ _ _ (by omega), Array.getElem?_push]
      by_cases h : j = i
      · subst h
        rw [if_pos (by omega)]
      · rw [if_neg (by omega)]
        exact f6 j (by omega)
theorem zz_mS_top (T : State) (f : JFrame) (cO cI : ClassId) (n q : Nat) (v : Value) : ∀ i, zz_mS (T.setTop f) cO cI n q v i = (zz_mS T cO cI n q v i).setTop f := by
  intro i
  induction i with
  | zero => rfl
  | succ i ih => simp only [zz_mS, ih, State.heap_setTop, State.pushCell_setTop, State.setCell_setTop]
section ZZW
variable {E : CtlPost} {e : Env} {d : Bool} {acts : List Action} {s : State}
theorem zz_mk1 {c1 cc : ClassId} {k1 : Class} {ty : FieldType} {y : Int32} (hk : s.vm.classes[c1]? = some k1) (hkind : k1.kind = .array cc ty) (hy : ¬ y < 0) (hl : ¬ y.toNatClampNeg > e.platform.arrayLengthLimit) (hh : ¬ y.toNatClampNeg * componentBytes ty > e.platform.maxHeapBytes) (hdf : fits ty (defaultValue ty) = true)
    (h1 : s.heap.size < e.platform.maxCells) (h2 : s.slotsUsed + y.toNatClampNeg ≤ e.platform.maxSlots) {Q : Addr → Pre} (hq : ∀ acts', Q s.heap.size d acts' (s.pushCell (arrV c1 y.toNatClampNeg (fun _ => defaultValue ty)))) : wp (multianewarray.make c1 [y]) Q E e d acts s := by
  rw [multianewarray.make]
  simp only [wp_bind', W.ite, hy, if_false, wp_pure', W.theClass, hk, hkind, Option.some.injEq, exists_eq_left']
  refine W.newArray_of hk hkind hl hh h1 h2 hdf (fun acts' => ?_)
  have h9 := hq acts'
  rw [← arrV_new] at h9
  exact h9
theorem zz_mk2 {c0 c1 cc : ClassId} {k0 k1 : Class} {ty : FieldType} {x y : Int32} (hk0 : s.vm.classes[c0]? = some k0) (hkind0 : k0.kind = .array c1 (.array ty)) (hk1 : s.vm.classes[c1]? = some k1) (hkind1 : k1.kind = .array cc ty) (hx : ¬ x < 0) (hy : ¬ y < 0)
    (hl0 : ¬ x.toNatClampNeg > e.platform.arrayLengthLimit) (hh0 : ¬ x.toNatClampNeg * componentBytes (.array ty) > e.platform.maxHeapBytes) (hl1 : ¬ y.toNatClampNeg > e.platform.arrayLengthLimit) (hh1 : ¬ y.toNatClampNeg * componentBytes ty > e.platform.maxHeapBytes) (hdf : fits ty (defaultValue ty) = true)
    (hc : s.heap.size + 1 + x.toNatClampNeg ≤ e.platform.maxCells) (hs : s.slotsUsed + x.toNatClampNeg + x.toNatClampNeg * y.toNatClampNeg ≤ e.platform.maxSlots)
    {Q : Addr → Pre} (hq : ∀ d' acts', Q s.heap.size d' acts' (zz_mS s c0 c1 x.toNatClampNeg y.toNatClampNeg (defaultValue ty) x.toNatClampNeg)) : wp (multianewarray.make c0 [x, y]) Q E e d acts s := by
  have hfind : ([y].find? (· < 0)) = none := by simp [hy]
  rw [multianewarray.make]
  simp only [wp_bind', W.ite, hx, if_false, wp_pure', W.theClass, hk0, hkind0, Option.some.injEq, exists_eq_left']
  refine W.newArray_of hk0 hkind0 hl0 hh0 (by omega) (by omega) rfl (fun acts' => ?_)
  simp only [hfind]
  rw [ite_self, wp_bind', Std.Legacy.Range.forIn_eq_forIn_range']
  have hsz : ([:x.toNatClampNeg] : Std.Legacy.Range).size = x.toNatClampNeg := by simp [Std.Legacy.Range.size]
  rw [hsz]
  show wp (forIn (List.range' 0 x.toNatClampNeg 1) PUnit.unit _) _ E e d acts' _
  refine wp_forIn_inv (fun rest s' => ∃ i, i + rest.length = x.toNatClampNeg ∧ rest = List.range' i (x.toNatClampNeg - i) ∧ s' = zz_mS s c0 c1 x.toNatClampNeg y.toNatClampNeg (defaultValue ty) i) _ _ ⟨0, by simp, by simp, ?_⟩ ?_ ?_
  · show _ = s.pushCell (zz_mO c0 x.toNatClampNeg s.heap.size 0)
    unfold zz_mO
    rw [show (fun j : Nat => if j < 0 then Value.ref (s.heap.size + 1 + j) else Value.null) = (fun _ => Value.null) from by funext j; exact if_neg (Nat.not_lt_zero _), ← arrV_new]
  · rintro z rest s' d' acts'' Q' ⟨i, hi, hl, rfl⟩ hnext
    rw [List.length_cons] at hi
    have hlt : i < x.toNatClampNeg := by omega
    rw [show x.toNatClampNeg - i = (x.toNatClampNeg - (i + 1)) + 1 from by omega, List.range'_succ] at hl
    obtain ⟨rfl, hrest⟩ := List.cons.inj hl
    obtain ⟨f1, f2, f3, f4, -, -⟩ := zz_mS_f s c0 c1 x.toNatClampNeg y.toNatClampNeg (defaultValue ty) z
    have hmul : z * y.toNatClampNeg + y.toNatClampNeg ≤ x.toNatClampNeg * y.toNatClampNeg := by
      have h9 := Nat.mul_le_mul_right y.toNatClampNeg (show z + 1 ≤ x.toNatClampNeg from hlt)
      rw [Nat.succ_mul] at h9; exact h9
    simp only [wp_bind']
    refine zz_mk1 (by rw [f3]; exact hk1) hkind1 hy hl1 hh1 hdf (by rw [f1]; omega) (by rw [f4]; omega) (fun acts3 => ?_)
    simp only [wp_bind', W.writeLoc, wp_pure']
    refine ⟨zz_mO c0 x.toNatClampNeg s.heap.size z, ?_, (fun h => by cases h), ?_, ?_, hnext _ _ _ ⟨z + 1, by omega, hrest, ?_⟩⟩
    · show ((zz_mS s c0 c1 x.toNatClampNeg y.toNatClampNeg (defaultValue ty) z).heap.push _)[s.heap.size]? = _
      rw [Array.getElem?_push, if_neg (by omega)]
      exact f2
    · unfold zz_mO
      rw [arrV_size]; exact hlt
    · show State.fitsSlot _ c0 .none _ _ = true
      simp [State.fitsSlot, State.slotType?, f3, hk0, hkind0]
      rfl
    · rw [f1, zz_mO_step]; rfl
  · rintro s' d' acts'' ⟨i, hi, -, rfl⟩
    have hi9 : i = x.toNatClampNeg := by simpa using hi
    subst hi9
    simp only [wp_pure']
    exact hq _ _
end ZZW
section ZZV
variable {p : Program} {l : Launch} {e : Env} {R : Room} {s : State} {m : MethodId} {args : Array Value} {below : List Frame} {meth : Method} {c : Code} {H : Heap} {locs : List Loc} {cells slots : Nat} {Qt : State → Prop}
variable {cc : ByteArray} {pc : Nat} {ls : Array Slot} {rest : List Value}
theorem zz_mS_X {T : State} (X : Stand p l e R s m args below meth c T locs cells slots) (cO cI : ClassId) (n q : Nat) (v : Value) : ∀ i, Stand p l e R s m args below meth c (zz_mS T cO cI n q v i) (locs ++ (List.range i).map (fun j => (⟨T.heap.size, j⟩ : Loc))) (cells + 1 + i) (slots + n + i * q) := by
  intro i
  induction i with
  | zero =>
    have h := X.pushed (zz_mO cO n T.heap.size 0)
    rw [show (zz_mO cO n T.heap.size 0).slots.size = n from arrV_size _ _ _] at h
    simpa [zz_mS] using h
  | succ i ih =>
    obtain ⟨f1, f2, -, -, -, -⟩ := zz_mS_f T cO cI n q v i
    have hcell : ((zz_mS T cO cI n q v i).pushCell (arrV cI q (fun _ => v))).heap[T.heap.size]? = some (zz_mO cO n T.heap.size i) := by
      show ((zz_mS T cO cI n q v i).heap.push _)[T.heap.size]? = _
      rw [Array.getElem?_push, if_neg (by omega)]
      exact f2
    have h := (ih.pushed (arrV cI q (fun _ => v))).stored hcell i (.ref (T.heap.size + 1 + i))
    rw [zz_mO_step, show (arrV cI q (fun _ => v)).slots.size = q from arrV_size _ _ _] at h
    rw [List.range_succ, List.map_append, ← List.append_assoc, show slots + n + (i + 1) * q = slots + n + i * q + q from by rw [Nat.succ_mul]; omega]
    exact h
theorem zz_manew (hexec : p.tables.exec = Jvm.exec) (hb : c.code = cc) {own : String} {idx : Nat} {ty : FieldType} (hown : s.vm.findClass own = some m.cls) (hclink : (Cond.classLink own idx ("[" ++ (FieldType.array ty).toString)).before args s = true) (hover : (Cond.arrayOver (.array ty)).before args s = true) (harr : (Cond.arrayClass ty).before args s = true)
    (hdg : decode cc pc = .ok (.multianewarray idx 2, 4)) {x y : Int32} {n q : Nat} (hx : ¬ x < 0) (hy : ¬ y < 0) (hn : x.toNatClampNeg = n) (hq : y.toNatClampNeg = q) (hn2 : n ≤ 100000) (hq2 : q ≤ 100000) (hcb : componentBytes ty ≤ 8) (hdf : fits ty (defaultValue ty) = true) (hcells : cells + (1 + n) ≤ R.cells) (hslots : slots + (n + n * q) ≤ R.slots)
    (kk : ∀ (H1 : Heap) (cO cI : ClassId), s.vm.findClass ("[" ++ (FieldType.array ty).toString) = some cO → s.vm.findClass (FieldType.array ty).toString = some cI → H1.size = H.size + 1 + n → H1[H.size]? = some (arrV cO n (fun j => if j < n then .ref (H.size + 1 + j) else .null)) → (∀ j : Nat, j < n → H1[H.size + 1 + j]? = some (arrV cI q (fun _ => defaultValue ty))) → (∀ a : Nat, a < H.size → H1[a]? = H[a]?) →
      W p l e R s m args below meth c H1 (locs ++ (List.range n).map (fun j => (⟨H.size, j⟩ : Loc))) (cells + 1 + n) (slots + n + n * q) Qt (F0 m (pc + 4) ls (.ref H.size :: rest))) : W p l e R s m args below meth c H locs cells slots Qt (F0 m pc ls (.int y :: .int x :: rest)) := by
  subst hn
  subst hq
  intro T hT X
  subst hT
  have hpl : e.platform.magicAccessors = ({} : Platform).magicAccessors := by rw [X.admits.platform]
  obtain ⟨c1, c0, k0, hc1, -, hk0, hkind0, hname0⟩ := arrayOverA_spec hover
  obtain ⟨c1', k1, c2, hc1', hk1, hkind1⟩ := Cond.arrayClass_spec harr
  have e1 : c1' = c1 := Option.some.inj (hc1'.symm.trans hc1)
  subst e1
  obtain ⟨c9, hf9, hcl⟩ := Cond.classLink_spec hown hclink e.platform hpl
  cases hname0.symm.trans hf9
  obtain ⟨hg₁, hwarm₁, hready₁⟩ := State.classEntry (e := e) X.warmed hcl
  generalize T.vm.noted m.cls idx (.cls c0) = vm₁ at hg₁ hwarm₁ hready₁
  have hal : s.vm.Alike vm₁ := hwarm₁.alike
  obtain ⟨k0', hk0', he0⟩ := hal.2.2 _ _ hk0
  obtain ⟨k1', hk1', he1⟩ := hal.2.2 _ _ hk1
  have hkind0' : k0'.kind = .array c1' (.array ty) := by rw [he0]; exact hkind0
  have hkind1' : k1'.kind = .array c2 ty := by rw [he1]; exact hkind1
  have XF := zz_mS_X (X.noted hwarm₁) c0 c1' x.toNatClampNeg y.toNatClampNeg (defaultValue ty) x.toNatClampNeg
  obtain ⟨f1, f2, -, -, f5, f6⟩ := zz_mS_f (T.setVm vm₁) c0 c1' x.toNatClampNeg y.toNatClampNeg (defaultValue ty) x.toNatClampNeg
  obtain ⟨hr1, hr2⟩ := X.roomAbove hcells hslots
  obtain ⟨t', a1, b1⟩ := kk _ c0 c1' hname0 hc1 f1 f2 f6 f5 _ rfl XF
  refine ⟨t', ?_, b1⟩
  have hl0 : ¬ x.toNatClampNeg > e.platform.arrayLengthLimit := by rw [Launch.admits_arrayLengthLimit X.admits]; omega
  have hh0 : ¬ x.toNatClampNeg * componentBytes (.array ty) > e.platform.maxHeapBytes := by
    rw [Launch.admits_maxHeapBytes X.admits]; show ¬ x.toNatClampNeg * 4 > 536870912; omega
  have hl1 : ¬ y.toNatClampNeg > e.platform.arrayLengthLimit := by rw [Launch.admits_arrayLengthLimit X.admits]; omega
  have hh1 : ¬ y.toNatClampNeg * componentBytes ty > e.platform.maxHeapBytes := by
    rw [Launch.admits_maxHeapBytes X.admits]
    have h9 := Nat.mul_le_mul hq2 hcb
    omega
  subst hb
  jvm_step X.here [hexec, hdg]
  simp only [multianewarray.sem, wp_bind', W.resolveClassAt_links (State.method?_setTop (F0 m pc ls (.int y :: .int x :: rest)) X.here.top) hg₁]
  rw [W.popN, if_neg (by decide)]
  refine ⟨_, State.topJava?_setTop' (s := T.setVm vm₁) (F0 m pc ls (.int y :: .int x :: rest)) X.here.top, [.int x, .int y], rest, rfl, rfl, ?_⟩
  simp only [List.mapM_cons, List.mapM_nil, wp_bind', wp_pure']
  refine zz_mk2 hk0' hkind0' hk1' hkind1' hx hy hl0 hh0 hl1 hh1 hdf (by show T.heap.size + 1 + _ ≤ _; omega) (by show T.slotsUsed + _ + _ ≤ _; omega) (fun d' acts' => ?_)
  have eS : ((T.setTop (F0 m pc ls (.int y :: .int x :: rest))).setVm vm₁).setTop (F0 m pc ls rest) = (T.setVm vm₁).setTop (F0 m pc ls rest) := by
    show ((T.setVm vm₁).setTop _).setTop _ = _
    rw [State.setTop_setTop]
  show wp _ _ _ _ _ _ (zz_mS (((T.setTop (F0 m pc ls (.int y :: .int x :: rest))).setVm vm₁).setTop (F0 m pc ls rest)) _ _ _ _ _ _)
  rw [eS, zz_mS_top]
  simp only [wp_bind', W.mark, W.pushRef, State.topJava?_setTop' _ XF.here.top, Option.some.injEq, exists_eq_left', State.setTop_setTop, State.heap_setTop]
  intro acts
  simp [jvm, XF.here.top]
  exact a1
end ZZV
