/-! THE CLAIM OUT OF ONE WALK OF THE LAW'S BODY. Your part is whole_start (and what it stands on); all else here is the same for every law, but numbers. -/
def R_law : String := "SaidAlreadyLaw"
def lw_P (b : Addr) (xs : List Int32) (args : Array Value) (s : State) : Prop := args = #[.ref b] ∧ s.IntsAt b xs ∧ xs.length ≤ 2048 ∧ (Jvm.Cond.and given_1 narrow_1).before args s = true
def lw_Q (_ : Array Value) (s : State) (o : Outcome) (t : State) : Prop := o = .returned (some (.int 1)) ∧ Framed s o t [] 600000 7302250
def lw_Z (below : List Frame) (a : Array Value) (s : State) : State → Prop := fun t => ∃ o, t.status = .running ∧ Ended t below o ∧ lw_Q a s o t
/-- the law's own end, with 1 on the stack, nothing written that was there before, its room as the claim has it -/
theorem lw_ret {p : Program} {l : Launch} {e : Env} {s : State} {m : MethodId} {below : List Frame} {meth : Method} {c : Code} {b : Nat} (hx : p.tables.exec = Jvm.exec) (hb : c.code = code) (hr : meth.sig.returnType = ret) (hlocks : meth.locks = false) {pc : Nat} {H : Heap} {ls : Array Slot} (hdg : decode code pc = .ok (.ireturn, 1)) : W p l e room_1 s m #[Value.ref b] below meth c H [] 600000 7302250 (lw_Z below #[Value.ref b] s) (F0 m pc ls [.int 1]) := by
  intro T hT X
  obtain ⟨fs, hret, hrun, hended, hW, hframe⟩ := X.leave (v := some (.int 1)) (hlocks := hlocks) (fun h => by rw [hr] at h; cases h)
  have hmeth' : T.vm.method? m = some meth := X.method'
  refine ⟨T.setFrames fs, ?_, .returned (some (.int 1)), hrun, hended, rfl, ⟨_, rfl⟩, hW, hframe⟩
  jvm_step X.here [X.here.top, hx, hb, hdg, hmeth', hr, ret, narrow_b1]
  (try refine ⟨rfl, ?_⟩); (try refine ⟨rfl, ?_⟩)
  first | (intro acts; rw [hret _ acts rfl rfl rfl]) | rw [hret _ _ rfl rfl rfl]
  exact Steps.refl _
/-- what holds at the law's entry: the machine, the code, the tables' words (any of lw_tbl by 'hts w (by decide +kernel)'), the script of L ints xs at the cell b, what the Statement gives of the start (any of its parts by flat_of_before) -/
def lw_At (p : Program) (s : State) (m : MethodId) (meth : Method) (c : Code) (b L : Nat) (xs : Nat → Int32) : Prop :=
  p.tables.exec = Jvm.exec ∧ c.code = code ∧ meth.sig.returnType = ret ∧ c.maxLocals = 4 ∧ s.vm.findClass R_law = some m.cls ∧ (∀ w ∈ lw_tbl, w.before #[Value.ref b] s = true) ∧ va_X b L xs s s.heap ∧ b < s.heap.size ∧ meth.locks = false ∧ (Jvm.Cond.and given_1 narrow_1).before #[Value.ref b] s = true ∧ meth.name = x.name
theorem zz_stat {args : Array Value} {s : State} {tm : Term} {N : Nat} {f : Nat → Int32} (hN : N < 2 ^ 31) (harr : (Cond.arrayOf tm .int).before args s = true) (hlen : (Term.length tm).eval args s none [] s = some (.int (Int32.ofNat N))) (hel : ∀ j : Nat, j < N → (Term.elem tm (.int (Int32.ofNat j))).eval args s none [] s = some (.int (f j))) : ∃ t : Nat, tm.eval args s none [] s = some (.ref t) ∧ t < s.heap.size ∧ va_X t N f s s.heap := by
  obtain ⟨t, cell, ht, hat, hv⟩ := Term.length_spec hlen
  obtain ⟨hcell, hkn, -, -⟩ := State.arrayAt?_spec hat
  obtain ⟨hof, -⟩ := Cond.arrayOf_spec harr ht hcell
  have hsz : cell.slots.size = N := by
    have h9 := hlen
    simp only [Term.eval, ht, hat, Option.bind_eq_bind, Option.bind_some] at h9
    split at h9
    · next hlt =>
      have h8 : nI cell.slots.size = nI N := Value.int.inj (Option.some.inj h9)
      exact (nI_eq hlt hN).mp h8
    · cases h9
  obtain ⟨t2, ht2, cell2, g1, g2, g3, g4, g5, g6, g7⟩ := va_Tof (f := fun j => Value.int (f j)) (A := fun _ => False) hN harr hlen hel (fun _ _ h => h)
  cases ht.symm.trans ht2
  cases hcell.symm.trans g1
  exact ⟨t, ht, (Array.getElem?_eq_some_iff.mp hcell).1, cell, hcell, hof, hkn, hsz, g6⟩
def zz_xv (i j : Nat) : Int32 := match i with
  | 1 => ([1, 1, 0, 2, 1, 2] : List Int32).getD j 0
  | 2 => ([1, 0, 1, 1, 2, 2] : List Int32).getD j 0
  | _ => ([0, 30, 30, 10, 10, 15] : List Int32).getD j 0
/-- the words of the three static arrays -/
theorem zz_st_all : ∀ i, i < 4 → 1 ≤ i → (Cond.arrayOf (.static RX0 (zz_sn i) "[I") .int ∈ flatC (Jvm.Cond.and given_1 narrow_1) ∧ Cond.eq (.length (.static RX0 (zz_sn i) "[I")) (.int 6) ∈ flatC (Jvm.Cond.and given_1 narrow_1) ∧ Cond.laysStatic RX0 (zz_sn i) "[I" ∈ lw_tbl) ∧ ∀ j, j < 6 → Cond.eq (.elem (.static RX0 (zz_sn i) "[I") (.int (Int32.ofNat j))) (.int (zz_xv i j)) ∈ flatC (Jvm.Cond.and given_1 narrow_1) := by decide +kernel
theorem zz_ini0 : Cond.initialized RX0 ∈ lw_tbl := by decide +kernel
theorem zz_ins_all : ∀ ci, ci < 7 → Cond.instantiable (zz_Rn ci) (zz_Nn ci) ∈ zz_WG := by decide +kernel
theorem zz_ne_all : ∀ w ∈ zz_nest, w ∈ lw_tbl := by decide +kernel
theorem zz_ac_all : Cond.arrayClass .int ∈ lw_tbl ∧ Cond.arrayClass .long ∈ lw_tbl ∧ Cond.arrayClass .boolean ∈ lw_tbl ∧ Cond.arrayOver (.object RX4) ∈ lw_tbl ∧ Cond.arrayOver (.object RX2) ∈ lw_tbl ∧ Cond.arrayOver (.array .int) ∈ lw_tbl ∧ Cond.arrayOver (.array .long) ∈ lw_tbl := by decide +kernel
theorem zz_K_ex {s : State} {args : Array Value} (hts : ∀ w ∈ lw_tbl, w.before args s = true) : ∃ (D : va_G) (cA : Nat → ClassId), zz_K D cA s := by
  have hW : ∀ w ∈ zz_WG, w.before args s = true := fun w hw => hts w (List.mem_filter.mp hw).1
  have h : ∀ ci, ∃ q : ClassId × (Nat → Nat), ci < 7 → u_Kn s (zz_Rn ci) (zz_Tn ci) (zz_Nn ci) q.1 q.2 := by
    intro ci
    by_cases hc : ci < 7
    · obtain ⟨cC, iS, hk⟩ := u_known hW (zz_lays hc) (hW _ (zz_ins_all ci hc))
      exact ⟨(cC, iS), fun _ => hk⟩
    · exact ⟨(0, fun _ => 0), fun q => absurd q hc⟩
  obtain ⟨a1, a2, a3, a4, a5, a6, a7⟩ := zz_ac_all
  obtain ⟨c0, k0, d0, f0, g0, m0⟩ := Cond.arrayClass_spec (hts _ a1)
  obtain ⟨c1, k1, d1, f1, g1, m1⟩ := Cond.arrayClass_spec (hts _ a2)
  obtain ⟨c2, k2, d2, f2, g2, m2⟩ := Cond.arrayClass_spec (hts _ a3)
  obtain ⟨d3, c3, k3, e3, -, g3, m3, f3⟩ := Cond.arrayOver_spec (hts _ a4)
  obtain ⟨d4, c4, k4, e4, -, g4, m4, f4⟩ := Cond.arrayOver_spec (hts _ a5)
  obtain ⟨d5, c5, k5, e5, -, g5, m5, f5⟩ := arrayOverA_spec (hts _ a6)
  obtain ⟨d6, c6, k6, e6, -, g6, m6, f6⟩ := arrayOverA_spec (hts _ a7)
  refine ⟨(fun ci => (Classical.choose (h ci)).1, fun ci => (Classical.choose (h ci)).2), fun k => ([c0, c1, c2, c3, c4, c5, c6] : List ClassId).getD k 0, ⟨fun c q hq => ?_, fun k q hk => ?_⟩, fun w hw => ?_⟩
  · have hc := zz_cl_lt hq
    rw [zz_cl_at hc] at hq
    cases hq
    exact Classical.choose_spec (h c) hc
  · have hk7 : k < 7 := (List.getElem?_eq_some_iff.mp hk).1
    rcases (show k = 0 ∨ k = 1 ∨ k = 2 ∨ k = 3 ∨ k = 4 ∨ k = 5 ∨ k = 6 by omega) with rfl | rfl | rfl | rfl | rfl | rfl | rfl
    · cases hk; exact ⟨fun n z => ⟨fun q e => (by cases e), k0, g0, d0, m0⟩, f0⟩
    · cases hk; exact ⟨fun n z => ⟨fun q e => (by cases e), k1, g1, d1, m1⟩, f1⟩
    · cases hk; exact ⟨fun n z => ⟨fun q e => (by cases e), k2, g2, d2, m2⟩, f2⟩
    · cases hk; exact ⟨fun n z => ⟨fun q e => (by cases e), k3, g3, d3, m3⟩, k3, d3, g3, m3, e3, f3⟩
    · cases hk; exact ⟨fun n z => ⟨fun q e => (by cases e), k4, g4, d4, m4⟩, k4, d4, g4, m4, e4, f4⟩
    · cases hk; exact ⟨fun n z => ⟨fun q e => (by cases e), k5, g5, d5, m5⟩, f5⟩
    · cases hk; exact ⟨fun n z => ⟨fun q e => (by cases e), k6, g6, d6, m6⟩, f6⟩
  · have h1 := hts w (zz_ne_all w hw)
    simp only [zz_nest, List.mem_cons, List.not_mem_nil, or_false] at hw
    rcases hw with rfl | rfl | rfl | rfl | rfl | rfl | rfl | rfl <;> first | exact va_Nw.of rfl h1 | exact zz_ao (Vm.Alike.refl _) h1
theorem zz_X_ex {s : State} {b L : Nat} {xs : Nat → Int32} (hts : ∀ w ∈ lw_tbl, w.before #[Value.ref b] s = true) (hX : va_X b L xs s s.heap) (hbl : b < s.heap.size) (hgv : (Jvm.Cond.and given_1 narrow_1).before #[Value.ref b] s = true) : ∃ ex : Nat → Nat, ex 0 = b ∧ zz_X s.heap.size ex (L, xs) s s.heap := by
  have hs := flat_of_before _ hgv
  have key : ∀ i, i < 4 → 1 ≤ i → ∃ t : Nat, (Term.static RX0 (zz_sn i) "[I").eval #[Value.ref b] s none [] s = some (.ref t) ∧ t < s.heap.size ∧ va_X t 6 (zz_xv i) s s.heap := by
    intro i h4 h1
    obtain ⟨⟨g1, g2, g3⟩, g4⟩ := zz_st_all i h4 h1
    exact zz_stat (N := 6) (by decide) (hs _ g1) (va_eqt (hs _ g2)) (fun j hj => va_eqt (hs _ (g4 j hj)))
  obtain ⟨t1, e1, l1, x1⟩ := key 1 (by decide) (by decide)
  obtain ⟨t2, e2, l2, x2⟩ := key 2 (by decide) (by decide)
  obtain ⟨t3, e3, l3, x3⟩ := key 3 (by decide) (by decide)
  refine ⟨fun i => ([b, t1, t2, t3] : List Nat).getD i 0, rfl, fun i hi => ?_, fun i h1 h4 => ?_⟩
  · rcases (show i = 0 ∨ i = 1 ∨ i = 2 ∨ i = 3 by omega) with rfl | rfl | rfl | rfl
    · exact ⟨hbl, hX⟩
    · exact ⟨l1, x1⟩
    · exact ⟨l2, x2⟩
    · exact ⟨l3, x3⟩
  · have hA : ∀ a : Nat, a < s.heap.size → ¬ s.heap.size ≤ a := fun a ha => Nat.not_le.mpr ha
    have hl := hts _ (zz_st_all i h4 h1).1.2.2
    have hi := hts _ zz_ini0
    rcases (show i = 1 ∨ i = 2 ∨ i = 3 by omega) with rfl | rfl | rfl
    · exact va_Zref hl hi e1 hA
    · exact va_Zref hl hi e2 hA
    · exact va_Zref hl hi e3 hA
/-- from the entry, for every script of at most 2048 ints, the law comes to its end with true -/
theorem whole_start {p : Program} {e : Env} {s : State} {m : MethodId} {below : List Frame} {meth : Method} {c : Code} (l : Launch) {b L : Nat} {xs : Nat → Int32} (hL : L ≤ 2048) (C0 : lw_At p s m meth c b L xs) : W p l e room_1 s m #[Value.ref b] below meth c s.heap [] 0 0 (lw_Z below #[Value.ref b] s) (entryFrame m ([Value.ref b] : List Value).toArray 4) := by
  obtain ⟨hx, hb, hr, hml, hown, hts, hX, hbl, hlocks, hgv, hnm⟩ := C0
  obtain ⟨D, cA, hK⟩ := zz_K_ex hts
  obtain ⟨ex, e0, hXX⟩ := zz_X_ex hts hX hbl hgv
  have hW : ∀ w ∈ zz_WG, w.before #[Value.ref b] s = true := fun w hw => hts w (List.mem_filter.mp hw).1
  have ea : [Value.ref b] = ([Value.ref 100000] : List Value).map (zz_tr s.heap.size ex) := by
    show [Value.ref b] = [Value.ref (zz_ad s.heap.size ex (100000 + 0))]
    rw [zz_exA, e0]
  have hsl := zz_sl s.heap.size ex (as := [Value.ref 100000]) rfl
  have hle := lv_entry (([Value.ref 100000] : List Value).map (zz_tr s.heap.size ex)) (n := 4) (by rw [hsl]; simp)
  rw [ea, lg_entry_eq]
  rw [hsl] at hle ⊢
  generalize hls : (List.map Slot.val (([Value.ref 100000] : List Value).map (zz_tr s.heap.size ex)) ++ List.replicate (4 - (List.map Slot.val (([Value.ref 100000] : List Value).map (zz_tr s.heap.size ex))).length) Slot.unset).toArray = ls at hle ⊢
  have hLs : zz_L s.heap.size ex ls 4 [some (.ref 100000), none, none, none] := by
    refine ⟨hle.1, hle.2.1, rfl, fun i v hi => ?_⟩
    have hi4 : i < 4 := (List.getElem?_eq_some_iff.mp hi).1
    rcases (show i = 0 ∨ i = 1 ∨ i = 2 ∨ i = 3 by omega) with rfl | rfl | rfl | rfl
    · cases hi
      rw [← hls]
      rfl
    · cases hi
    · cases hi
    · cases hi
  rw [← ea]
  refine l_start (sc := (L, xs)) hL p l e room_1 s m #[Value.ref b] below meth c D cA s.heap.size ex s.heap [] 0 0 _ ls ⟨hx, hb, hml, hown, hW, hK, hXX, Nat.le_refl _, hnm⟩ ⟨rfl, by decide, fun k q hk => ?_, va_S.rf⟩ hLs (by decide) (by decide) (by decide) (by decide) ?_
  · cases hk
  · intro pc' ls' r σ' H' locs' cells' slots' hQ hR hc hs hrt
    subst hQ
    have hd : decode code pc' = .ok (.ireturn, 1) := by
      rcases hrt with ⟨h1, -, -⟩ | ⟨h1, -, -, h2⟩ | ⟨-, -, -, -, h2⟩ | ⟨h1, -⟩
      · cases h1
      · exact h2
      · exact h2
      · cases h1
    refine va_forget (fun q hq => hR.2.2.2.2.2 q hq) ?_
    have hc9 : cells' ≤ 600000 := Nat.le_trans hc (by decide)
    have hs9 : slots' ≤ 7302250 := Nat.le_trans hs (by decide)
    refine W.widen (k := 600000) (n := 7302250) hc9 hs9 ?_
    exact lw_ret hx hb hr hlocks hd
set_option maxHeartbeats 4000000 in
theorem lw_walk (l : Launch) (b : Addr) (xs : List Int32) : MetFree l x (headSpec (Jvm.Cond.code x code maxLocals ret :: tables_1) room_1) (lw_P b xs) (fun _ _ _ _ _ => True) lw_Q := by
  refine MetFree.of_bodyS (code := code) (maxLocals := maxLocals) (ret := ret) (by decide) ?_ ?_
  · intro args s m h hn
    obtain ⟨meth, c, h1, h2, h3, h4, h5, h6, -, -⟩ := Cond.code_spec hn (atoms_spec (ws := Jvm.Cond.code x code maxLocals ret :: tables_1) h _ List.mem_cons_self)
    exact ⟨meth, c, h1, h2, h3, h4, h5, h6⟩
  · intro p e s m args below meth c s₁ B hml0 hP _
    obtain ⟨rfl, hx, hbd, hgv⟩ := hP
    obtain ⟨scr, harrAt, hlist, hof, hsmall⟩ := hx
    obtain ⟨hcb, hkn, -, -⟩ := State.arrayAt?_spec harrAt
    have hown : s.vm.findClass R_law = some m.cls := findClass_of_methodNamed B.named
    have hts0 : ∀ c ∈ (Jvm.Cond.code x code maxLocals ret :: tables_1), c.before #[Value.ref b] s = true := atoms_spec (ws := Jvm.Cond.code x code maxLocals ret :: tables_1) B.pre
    have hts : ∀ w ∈ lw_tbl, w.before #[Value.ref b] s = true := k2_hts_sels lw_privs (fun w hw => hts0 w (List.mem_cons_of_mem _ hw)) lw_privs_ok
    have hml : c.maxLocals = 4 := B.maxLocals_eq (hts0 _ List.mem_cons_self)
    have X₀ : Stand p l e room_1 s m #[Value.ref b] below meth c s₁ [] 0 0 := Stand.of_body B
    have hh0 : s₁.heap = s.heap := by rw [B.state]; rfl
    have hsz : scr.slots.size = xs.length := by rw [← Array.length_toList, hlist, List.length_map]
    have hval : ∀ j : Nat, j < xs.length → scr.slots[j]? = some (.int (xs.getD j 0)) := fun j hj => by
      rw [← Array.getElem?_toList, hlist]
      simp [hj]
    have hbl : b < s.heap.size := (Array.getElem?_eq_some_iff.mp hcb).1
    have hX : va_X b xs.length (fun j => xs.getD j 0) s s.heap := ⟨scr, hcb, hof, hkn, hsz, hval⟩
    have K : W p l e room_1 s m #[Value.ref b] below meth c s₁.heap [] 0 0 (lw_Z below #[Value.ref b] s) (entryFrame m ([Value.ref b] : List Value).toArray 4) := by
      rw [hh0]
      exact whole_start l hbd ⟨B.exec, B.bytes, B.returns, hml, hown, hts, hX, hbl, B.notSynchronized, hgv, (name_of_methodNamed B.named B.method).1⟩
    obtain ⟨t, a1, o, b1, b2, b3⟩ := K s₁ rfl X₀
    exact ⟨t, o, a1, b1, b2, b3⟩
theorem lw_pre_spec {args : Array Value} {s : State} (h : (Jvm.Cond.and given_1 narrow_1).before args s = true) (hr : rest_1_c.before args s = true) : ∃ (b : Addr) (xs : List Int32), lw_P b xs args s := by
  have hs := flat_of_before _ h
  have hq := flat_of_before _ hr
  have hc : (Cond.count 1).before args s = true := hs _ (by decide +kernel)
  have harr : (Cond.arrayOf (.arg 0) .int).before args s = true := hs _ (by decide +kernel)
  have hle : (Cond.le (.length (.arg 0)) (.int 2048)).before args s = true := hs _ (by decide +kernel)
  have hlen : (Cond.isInt (.length (.arg 0))).before args s = true := hq _ (by decide +kernel)
  have hall : (Cond.all (.arg 0) (.isInt (.elem (.arg 0) (.index 0)))).before args s = true := hq _ (by decide +kernel)
  obtain ⟨b, xs, hb, hx⟩ := State.ints_of_pre rfl harr hlen hall
  have hsm : xs.length < 2 ^ 31 := hx.choose_spec.2.2.2
  have hev : (Term.length (.arg 0)).eval args s none [] s = some (.int xs.length.toInt32) := hx.length_eval hb
  have hv := Cond.le_ints hev (show (Term.int 2048).eval args s none [] s = some (.int 2048) from rfl)
  have hd : xs.length.toInt32 ≤ 2048 := by
    simpa [Cond.before, Cond.holds, hv] using hle
  have hN : xs.length ≤ 2048 := (Int32.ofNat_le_ofNat hsm (by decide)).mp (show Int32.ofNat xs.length ≤ Int32.ofNat 2048 from hd)
  exact ⟨b, xs, Cond.one_arg hc (show args[0]? = some (.ref b) from hb), hx, hN, h⟩
theorem lw_comes (l : Launch) : Comes l x (Jvm.Cond.code x code maxLocals ret :: tables_1) room_1 (fun tb e args s => Calls_1 tb e args s ∧ rest_1 tb e args s ∧ Pre_1 tb e args s)
    (fun _ _ args s o t => lw_Q args s o t) := by
  intro p e ha hc hk s m args below hf hfit hheap happ hpre
  obtain ⟨b, xs, hP⟩ := lw_pre_spec hpre.2.2 hpre.2.1
  obtain ⟨k, o, h1, h2, h3, hQ⟩ := lw_walk l b xs p e ha hc hk s m args below hf ((Spec.applies_iff_loose hf).mp happ).1 hP trivial
  exact ⟨k, o, h1, h2, h3, hQ⟩
theorem lw_frame {s t : State} {o : Outcome} {args : Array Value} (h : Framed s o t [] 600000 7302250) :
    Framed s o t (fieldLocs frame_1_writes args s ++ arrayLocs frame_1_arrays args s ++ staticLocs frame_1_statics s) 600000 7302250 := h
theorem lw_limb (L : Cond) (hL : ∀ (args : Array Value) (s t : State), L.after args s (.returned (some (.int 1))) t = true) :
    ArmFor flags0 classFile x code maxLocals ret World_1 tables_1 room_1 Calls_1 rest_1 Pre_1
      (fun tb e a s o t => postC L tb e a s o t ∧ Framed s o t (fieldLocs frame_1_writes a s ++ arrayLocs frame_1_arrays a s ++ staticLocs frame_1_statics s) 600000 7302250) := by
  intro l _ _ _ p e ha hc hk s m args below hf hfit hheap happ hpre
  obtain ⟨k, o, h1, h2, h3, rfl, hF⟩ := lw_comes l p e ha hc hk s m args below hf hfit hheap happ hpre
  exact ⟨k, _, h1, h2, h3, hL args s _, lw_frame hF⟩
theorem i_vc : Claimed_1_1 ∧ Claimed_1_2 := ⟨lw_limb limb_1_1 (fun args s t => by simp [limb_1_1, Cond.after, Cond.holds, Cond.value]), lw_limb limb_1_2 (fun args s t => Cond.after_iff.mpr (by
  first | (rw [show limb_1_2 = Cond.eq .result (.int 1) from rfl, Cond.eq_ints (x := 1) (y := 1) rfl rfl]; simp; done) | (simp [limb_1_2, Cond.value, Term.eval]; done)))⟩
