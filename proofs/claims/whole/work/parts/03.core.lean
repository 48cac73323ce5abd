/-! ===== the flat store: what the cells are, by number ===== -/
abbrev zz_SK : Type := (Nat × List (Option (Option Nat))) ⊕ (Nat × Nat × List (Option Nat))
abbrev zz_St : Type := List zz_SK × (Nat → Nat → Int32) × (Nat → Nat → Int64)
abbrev zz_MD : Type := MethodName × ByteArray × Nat × Option FieldType × Nat
def zz_WG : List Cond := lw_tbl.filter goodWord
theorem zz_good : GoodIn zz_WG zz_WG := fun w h => ⟨h, good_of_word (List.mem_filter.mp h).2⟩
abbrev zz_ws1 (M : zz_MD) : List Cond := Cond.code M.1 M.2.1 M.2.2.1 M.2.2.2.1 :: zz_WG
abbrev zz_cl : List vw_C := [(RX0, TX0, 3), (RX1, TX1, 1), (RX2, TX2, 12), (RX3, TX3, 6), (RX4, TX4, 2), (RX6, TX6, 7), (RX7, TX7, 28)]
def zz_ad (b : Nat) (ex : Nat → Nat) (k : Nat) : Nat := if k < 100000 then b + k else ex (k - 100000)
def zz_tr (b : Nat) (ex : Nat → Nat) (v : Value) : Value := match v with
  | .ref k => .ref (zz_ad b ex k)
  | w => w
def zz_fv (b : Nat) (ex : Nat → Nat) (g : Nat → Int32) (j : Nat) (x : Option (Option Nat)) : Value := match x with
  | none => .int (g j)
  | some none => .null
  | some (some q) => .ref (zz_ad b ex q)
def zz_ar (b : Nat) (ex : Nat → Nat) (g : Nat → Int32) (h : Nat → Int64) (tg : Nat) (rs : List (Option Nat)) : ((Nat → Int32) ⊕ (Nat → Int64) ⊕ (Nat → UInt32) ⊕ (Nat → UInt64) ⊕ (Nat → Option Nat)) := match tg with
  | 0 => .inl g
  | 1 => .inr (.inl h)
  | 2 => .inl g
  | _ => .inr (.inr (.inr (.inr (fun j => (rs[j]?.join).map (zz_ad b ex)))))
def zz_e (cA : Nat → ClassId) (b : Nat) (ex : Nat → Nat) (g : Nat → Int32) (h : Nat → Int64) (x : zz_SK) : va_E := match x with
  | .inl o => .inr (o.1, o.2.mapIdx (fun j y => zz_fv b ex g j y))
  | .inr a => .inl (cA a.1, a.2.1, zz_ar b ex g h a.1 a.2.2)
def zz_ws (cA : Nat → ClassId) (b : Nat) (ex : Nat → Nat) (σ : zz_St) : va_W := σ.1.mapIdx (fun k x => (b + k, zz_e cA b ex (σ.2.1 k) (σ.2.2 k) x))
theorem zz_ws_at (cA : Nat → ClassId) (b : Nat) (ex : Nat → Nat) (σ : zz_St) (k : Nat) : (zz_ws cA b ex σ)[k]? = (σ.1[k]?).map (fun x => (b + k, zz_e cA b ex (σ.2.1 k) (σ.2.2 k) x)) := by
  simp [zz_ws]
theorem zz_ws_get {cA : Nat → ClassId} {b : Nat} {ex : Nat → Nat} {σ : zz_St} {k : Nat} {x : zz_SK} (h : σ.1[k]? = some x) : (zz_ws cA b ex σ)[k]? = some (b + k, zz_e cA b ex (σ.2.1 k) (σ.2.2 k) x) := by
  rw [zz_ws_at, h]; rfl
theorem zz_ws_D (cA : Nat → ClassId) (b : Nat) (ex : Nat → Nat) (σ : zz_St) : va_D (fun q => b ≤ q) (zz_ws cA b ex σ) := by
  refine ⟨fun i j p q hi hj h => ?_, fun k q hk => ?_⟩
  · rw [zz_ws_at] at hi hj
    obtain ⟨x, -, rfl⟩ := Option.map_eq_some_iff.mp hi
    obtain ⟨y, -, rfl⟩ := Option.map_eq_some_iff.mp hj
    have h9 : b + i = b + j := h
    omega
  · rw [zz_ws_at] at hk
    obtain ⟨x, -, rfl⟩ := Option.map_eq_some_iff.mp hk
    exact Nat.le_add_right b k
def zz_tys (cA : Nat → ClassId) : List (ClassId × FieldType) := [(cA 0, .int), (cA 1, .long), (cA 2, .boolean), (cA 3, .object RX4), (cA 4, .object RX2), (cA 5, .array .int), (cA 6, .array .long)]
def zz_nest : List Cond := [.methodLinkNest "SaidAlready$Likeness" 34 yX6_isNumber "SaidAlready", .methodLinkNest "SaidAlready" 35 yX1_init "SaidAlready", .methodLinkNest "SaidAlready" 42 yX3_init "SaidAlready", .methodLinkNest "SaidAlready" 49 yX0_init "SaidAlready", .arrayOver (.object RX4), .arrayOver (.object RX2), .arrayOver (.array .int), .arrayOver (.array .long)]
def zz_K (D : va_G) (cA : Nat → ClassId) (U : State) : Prop := va_K D zz_cl (zz_tys cA) U ∧ ∀ w ∈ zz_nest, va_Nw w U
def zz_xs (sc : Nat × (Nat → Int32)) (i : Nat) : Nat × (Nat → Int32) := match i with
  | 0 => sc
  | 1 => (6, fun j => ([1, 1, 0, 2, 1, 2] : List Int32).getD j 0)
  | 2 => (6, fun j => ([1, 0, 1, 1, 2, 2] : List Int32).getD j 0)
  | _ => (6, fun j => ([0, 30, 30, 10, 10, 15] : List Int32).getD j 0)
def zz_sn (i : Nat) : String := match i with
  | 1 => "OF_ONE"
  | 2 => "OF_OTHER"
  | _ => "BESIDES"
def zz_X (b : Nat) (ex : Nat → Nat) (sc : Nat × (Nat → Int32)) (U : State) (H : Heap) : Prop := (∀ i, i < 4 → ex i < b ∧ va_X (ex i) (zz_xs sc i).1 (zz_xs sc i).2 U H) ∧ ∀ i, 1 ≤ i → i < 4 → va_Z RX0 (zz_sn i) "[I" (.ref (ex i)) (fun q => b ≤ q) U H
def zz_R (D : va_G) (cA : Nat → ClassId) (b : Nat) (ex : Nat → Nat) (σ : zz_St) (H0 H : Heap) (locs : List Loc) : Prop := H.size = b + σ.1.length ∧ σ.1.length < 100000 ∧ va_P D zz_cl (zz_ws cA b ex σ) H ∧ va_S (fun q => b ≤ q) H0 H locs
def zz_L (b : Nat) (ex : Nat → Nat) (ls : Array Slot) (nL : Nat) (L : List (Option Value)) : Prop := ls.size = nL ∧ lv_wf ls ∧ L.length = nL ∧ ∀ (i : Nat) (v : Value), L[i]? = some (some v) → ls[i]? = some (.val (zz_tr b ex v))
def zz_C (p : Program) (s : State) (m : MethodId) (args : Array Value) (meth : Method) (c : Code) (D : va_G) (cA : Nat → ClassId) (b : Nat) (ex : Nat → Nat) (sc : Nat × (Nat → Int32)) (M : zz_MD) : Prop :=
  p.tables.exec = Jvm.exec ∧ c.code = M.2.1 ∧ c.maxLocals = M.2.2.1 ∧ s.vm.findClass M.1.cls = some m.cls ∧ (∀ w ∈ zz_WG, w.before args s = true) ∧ zz_K D cA s ∧ zz_X b ex sc s s.heap ∧ b ≤ s.heap.size ∧ meth.name = M.1.name
def zz_rt (M : zz_MD) (pc : Nat) (r : Option Value) : Prop :=
  (M.2.2.2.1 = none ∧ r = none ∧ decode M.2.1 pc = .ok (.return_, 1)) ∨ (M.2.2.2.1 = some .int ∧ ∃ x : Int32, r = some (.int x) ∧ decode M.2.1 pc = .ok (.ireturn, 1)) ∨ (M.2.2.2.1 = some .boolean ∧ ∃ x : Int32, (x = 0 ∨ x = 1) ∧ r = some (.int x) ∧ decode M.2.1 pc = .ok (.ireturn, 1)) ∨ (M.2.2.2.1 = some .long ∧ ∃ x : Int64, r = some (.long x) ∧ decode M.2.1 pc = .ok (.lreturn, 1))
/-- from the place pc of method M, with locals L, stack S and store σ, the method returns, with Q of its answer and store; it makes at most mc cells of ms slots, and goes at most d calls deeper -/
def Ev (sc : Nat × (Nat → Int32)) (d mc ms : Nat) (M : zz_MD) (pc : Nat) (L : List (Option Value)) (S : List Value) (σ : zz_St) (Q : Option Value → zz_St → Prop) : Prop :=
  ∀ (p : Program) (l : Launch) (e : Env) (R : Room) (s : State) (m : MethodId) (args : Array Value) (below : List Frame) (meth : Method) (c : Code) (D : va_G) (cA : Nat → ClassId) (b : Nat) (ex : Nat → Nat) (H : Heap) (locs : List Loc) (cells slots : Nat) (Qt : State → Prop) (ls : Array Slot),
    zz_C p s m args meth c D cA b ex sc M → zz_R D cA b ex σ s.heap H locs → zz_L b ex ls M.2.2.1 L → d ≤ R.frames → 36 * d ≤ R.locals → cells + mc ≤ R.cells → slots + ms ≤ R.slots →
    (∀ (pc' : Nat) (ls' : Array Slot) (r : Option Value) (σ' : zz_St) (H' : Heap) (locs' : List Loc) (cells' slots' : Nat), Q r σ' → zz_R D cA b ex σ' s.heap H' locs' → cells' ≤ cells + mc → slots' ≤ slots + ms → zz_rt M pc' r → W p l e R s m args below meth c H' locs' cells' slots' Qt (F0 m pc' ls' ((r.map (zz_tr b ex)).toList))) →
    W p l e R s m args below meth c H locs cells slots Qt (F0 m pc ls (S.map (zz_tr b ex)))
/-- the contract of a method -/
def EvM (sc : Nat × (Nat → Int32)) (d mc ms : Nat) (M : zz_MD) (as : List Value) (σ : zz_St) (Q : Option Value → zz_St → Prop) : Prop :=
  ∀ (l : Launch) (D : va_G) (cA : Nat → ClassId) (b : Nat) (ex : Nat → Nat),
    Met l M.1 (zz_ws1 M) ({ frames := d, cells := mc, slots := ms, locals := 36 * d } : Room)
      (va_Pc (as.map (zz_tr b ex)) (fun U => zz_K D cA U ∧ zz_X b ex sc U U.heap ∧ b ≤ U.heap.size ∧ U.heap.size = b + σ.1.length ∧ σ.1.length < 100000 ∧ va_P D zz_cl (zz_ws cA b ex σ) U.heap))
      (fun _ st oc t => (∃ (r : Option Value) (σ' : zz_St), oc = .returned (r.map (zz_tr b ex)) ∧ Q r σ' ∧ t.heap.size = b + σ'.1.length ∧ σ'.1.length < 100000 ∧ va_P D zz_cl (zz_ws cA b ex σ') t.heap) ∧ va_F (fun q => b ≤ q) st t) mc ms (fun q => b ≤ q)
theorem zz_tr_i (b : Nat) (ex : Nat → Nat) (x : Int32) : zz_tr b ex (.int x) = .int x := rfl
theorem zz_cat (b : Nat) (ex : Nat → Nat) (v : Value) : (zz_tr b ex v).category = v.category := by cases v <;> rfl
theorem zz_cats (b : Nat) (ex : Nat → Nat) (S : List Value) : ((S.map (zz_tr b ex)).map fun v => v.category).sum = (S.map fun v => v.category).sum := by
  rw [List.map_map]
  congr 1
  apply List.map_congr_left
  intro v _
  exact zz_cat b ex v
theorem zz_ao {ty : FieldType} {A A' : Array Value} {u U : State} (hvm : u.vm.Alike U.vm) (h : (Cond.arrayOver ty).before A u = true) : (Cond.arrayOver ty).before A' U = true := by
  have e : (Cond.arrayOver ty).before A' U = (Cond.arrayOver ty).before A u := by
    simp only [Cond.before, Cond.holds, Cond.value, hvm.findClass]
    congr 1
    congr 1
    funext comp
    rw [hvm.findIdx?_eq _ (fun k => rfl)]
    congr 1
    funext c
    exact hvm.class_map _ (fun k r _ _ => rfl) c
  rw [e]; exact h
theorem zz_Kmove {D : va_G} {cA : Nat → ClassId} {s U : State} (hW : s.WarmedH U.vm) (h : zz_K D cA s) : zz_K D cA U := by
  refine ⟨va_K.moved hW.alike h.1, fun w hw => ?_⟩
  have h1 := h.2 w hw
  simp only [zz_nest, List.mem_cons, List.not_mem_nil, or_false] at hw
  rcases hw with rfl | rfl | rfl | rfl | rfl | rfl | rfl | rfl <;> first | exact va_Nw.warmM hW h1 | exact zz_ao hW.alike h1
theorem zz_Kcall {D : va_G} {cA : Nat → ClassId} {u U : State} (h0 : u.vm = U.vm) (h : zz_K D cA u) : zz_K D cA U := by
  refine ⟨va_K.moved (by rw [h0]; exact Vm.Alike.refl U.vm) h.1, fun w hw => ?_⟩
  have h1 := h.2 w hw
  simp only [zz_nest, List.mem_cons, List.not_mem_nil, or_false] at hw
  rcases hw with rfl | rfl | rfl | rfl | rfl | rfl | rfl | rfl <;> first | exact va_Nw.same rfl h0 h1 | exact zz_ao (by rw [h0]; exact Vm.Alike.refl U.vm) h1
theorem zz_Xmove {b : Nat} {ex : Nat → Nat} {sc : Nat × (Nat → Int32)} {s U : State} {H H1 : Heap} (hvm : s.vm.Alike U.vm) (hq : ∀ a : Nat, a < b → H1[a]? = H[a]?) (h : zz_X b ex sc s H) : zz_X b ex sc U H1 := by
  refine ⟨fun i hi => ⟨(h.1 i hi).1, ((h.1 i hi).2.kept (hq _ (h.1 i hi).1)).moved hvm⟩, fun i h1 h2 => va_Z.moved hvm ((h.2 i h1 h2).kept (fun a _ ha => hq a (Nat.not_le.mp ha)))⟩
