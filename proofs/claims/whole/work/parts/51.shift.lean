/-! ===== the same cells further up ===== -/
def zz_sk (k : Nat) (x : zz_SK) : zz_SK := match x with
  | .inl o => .inl (o.1, o.2.map (Option.map (Option.map (fun q => q + k))))
  | .inr a => .inr (a.1, a.2.1, a.2.2.map (Option.map (fun q => q + k)))
def zz_o2 (y : Option (Option Nat)) : Bool := match y with
  | some (some q) => Nat.blt q 1000
  | _ => true
def zz_o1 (y : Option Nat) : Bool := match y with
  | some q => Nat.blt q 1000
  | _ => true
def zz_sml (x : zz_SK) : Bool := match x with
  | .inl o => o.2.all zz_o2
  | .inr a => a.2.2.all zz_o1
theorem zz_ad_sh {b k q : Nat} {ex : Nat → Nat} (hk : k < 1000) (hq : q < 1000) : zz_ad b ex (q + k) = zz_ad (b + k) ex q := by
  unfold zz_ad
  rw [if_pos (by omega), if_pos (by omega)]
  omega
theorem zz_e_sh {cA : Nat → ClassId} {b k : Nat} {ex : Nat → Nat} {g : Nat → Int32} {h : Nat → Int64} {x : zz_SK} (hk : k < 1000) (hx : zz_sml x = true) : zz_e cA b ex g h (zz_sk k x) = zz_e cA (b + k) ex g h x := by
  cases x with
  | inl o =>
    obtain ⟨ci, fs⟩ := o
    show Sum.inr (ci, (fs.map _).mapIdx _) = Sum.inr (ci, fs.mapIdx _)
    congr 2
    apply List.ext_getElem?
    intro j
    rw [List.getElem?_mapIdx, List.getElem?_mapIdx, List.getElem?_map]
    cases hj : fs[j]? with
    | none => rfl
    | some y =>
      have hy := List.all_eq_true.mp (show fs.all zz_o2 = true from hx) y (List.mem_of_getElem? hj)
      cases y with
      | none => rfl
      | some z =>
        cases z with
        | none => rfl
        | some q =>
          show some (Value.ref (zz_ad b ex (q + k))) = some (Value.ref (zz_ad (b + k) ex q))
          rw [zz_ad_sh hk (Nat.le_of_ble_eq_true hy)]
  | inr a =>
    obtain ⟨tg, n, rs⟩ := a
    show Sum.inl (cA tg, n, zz_ar b ex g h tg (rs.map _)) = Sum.inl (cA tg, n, zz_ar (b + k) ex g h tg rs)
    congr 3
    have e : (fun j : Nat => (((rs.map (Option.map (fun q => q + k)))[j]?).join).map (zz_ad b ex)) = (fun j : Nat => ((rs[j]?).join).map (zz_ad (b + k) ex)) := by
      funext j
      rw [List.getElem?_map]
      cases hj : rs[j]? with
      | none => rfl
      | some y =>
        have hy := List.all_eq_true.mp (show rs.all zz_o1 = true from hx) y (List.mem_of_getElem? hj)
        cases y with
        | none => rfl
        | some q =>
          show some (zz_ad b ex (q + k)) = some (zz_ad (b + k) ex q)
          rw [zz_ad_sh hk (Nat.le_of_ble_eq_true hy)]
    unfold zz_ar
    split <;> first | rfl | exact congrArg (fun f => Sum.inr (Sum.inr (Sum.inr (Sum.inr f)))) e
def zz_jn {α : Type} (k : Nat) (I Il : Nat → Nat → α) : Nat → Nat → α := fun c => if c < k then I c else Il (c - k)
theorem zz_ws_sh2 {cA : Nat → ClassId} {b k : Nat} {ex : Nat → Nat} {P X : List zz_SK} {I Il : Nat → Nat → Int32} {J Jl : Nat → Nat → Int64} (hk : k < 1000) (hP : P.length = k) (hX : ∀ x ∈ X, zz_sml x = true) (i : Nat) : (zz_ws cA b ex (P ++ X.map (zz_sk k), zz_jn k I Il, zz_jn k J Jl))[k + i]? = (zz_ws cA (b + k) ex (X, Il, Jl))[i]? := by
  rw [zz_ws_at, zz_ws_at]
  show Option.map _ ((P ++ X.map (zz_sk k))[k + i]?) = Option.map _ (X[i]?)
  rw [List.getElem?_append_right (by omega), List.getElem?_map, show k + i - P.length = i by omega]
  cases hi : X[i]? with
  | none => rfl
  | some x =>
    show some (b + (k + i), zz_e cA b ex (zz_jn k I Il (k + i)) (zz_jn k J Jl (k + i)) (zz_sk k x)) = some (b + k + i, zz_e cA (b + k) ex (Il i) (Jl i) x)
    rw [show zz_jn k I Il (k + i) = Il i from by unfold zz_jn; rw [if_neg (by omega), show k + i - k = i by omega], show zz_jn k J Jl (k + i) = Jl i from by unfold zz_jn; rw [if_neg (by omega), show k + i - k = i by omega], zz_e_sh hk (hX x (List.mem_of_getElem? hi)), Nat.add_assoc]
theorem zz_ws_sh1 {cA : Nat → ClassId} {b k i : Nat} {ex : Nat → Nat} {P X : List zz_SK} {I Il : Nat → Nat → Int32} {J Jl : Nat → Nat → Int64} (hP : P.length = k) (hi : i < k) : (zz_ws cA b ex (P ++ X.map (zz_sk k), zz_jn k I Il, zz_jn k J Jl))[i]? = (zz_ws cA b ex (P, I, J))[i]? := by
  rw [zz_ws_at, zz_ws_at]
  show Option.map _ ((P ++ X.map (zz_sk k))[i]?) = Option.map _ (P[i]?)
  rw [List.getElem?_append_left (by omega)]
  show Option.map (fun x => (b + i, zz_e cA b ex (zz_jn k I Il i) (zz_jn k J Jl i) x)) _ = _
  rw [show zz_jn k I Il i = I i from if_pos hi, show zz_jn k J Jl i = J i from if_pos hi]
/-- a method that makes its cells behind one object, called where that object lies further up -/
theorem EvM.shift {sc : Nat × (Nat → Int32)} {d mc ms k : Nat} {M : zz_MD} {P X X' : List zz_SK} {I Il Il' : Nat → Nat → Int32} {J Jl Jl' : Nat → Nat → Int64} (hk : k < 1000) (hP : P.length = k) (hX : ∀ x ∈ X, zz_sml x = true) (hX' : ∀ x ∈ X', zz_sml x = true) (hl' : X'.length < 1000)
    (h : EvM sc d mc ms M [.ref 0] (X, Il, Jl) (fun r σ => r = none ∧ σ = (X', Il', Jl'))) : EvM sc d mc ms M [.ref k] (P ++ X.map (zz_sk k), zz_jn k I Il, zz_jn k J Jl) (fun r σ => r = none ∧ σ = (P ++ X'.map (zz_sk k), zz_jn k I Il', zz_jn k J Jl')) := by
  intro l D cA b ex p e ha hc hcl s m args below hf happ hpre hK
  obtain ⟨q0, q1, q2, q3, q4, q5, q6⟩ := hpre
  have q4' : s.heap.size = b + k + X.length := by rw [q4]; simp [hP]; omega
  have q5' : X.length < 100000 := by
    have h9 : (P ++ X.map (zz_sk k)).length < 100000 := q5
    simp at h9; omega
  have hz : (Value.ref (zz_ad (b + k) ex 0)) = .ref (zz_ad b ex k) := by
    have h9 := zz_ad_sh (b := b) (ex := ex) hk (show 0 < 1000 by decide)
    rw [Nat.zero_add] at h9
    rw [h9]
  obtain ⟨n, o, r1, r2, r3, r4⟩ := h l D cA (b + k) ex p e ha hc hcl s m args below hf happ ⟨by rw [q0]; exact congrArg (fun v => #[v]) hz.symm, q1, ⟨fun i hi => ⟨Nat.lt_of_lt_of_le (q2.1 i hi).1 (Nat.le_add_right _ _), (q2.1 i hi).2⟩, fun i h1 h2 => (q2.2 i h1 h2).narrow (fun q hq => Nat.le_trans (Nat.le_add_right _ _) hq)⟩, by rw [q4']; omega, q4', q5', fun i q hq => q6 (k + i) q (by rw [zz_ws_sh2 hk hP hX]; exact hq)⟩ trivial
  refine ⟨n, o, r1, r2, r3, ?_⟩
  obtain ⟨⟨⟨r, σ', z1, ⟨rfl, rfl⟩, z3, z4, z5⟩, z6, z7⟩, L, z8, z9⟩ := r4
  refine ⟨⟨⟨none, _, z1, ⟨rfl, rfl⟩, ?_, ?_, ?_⟩, z6, fun q h1 h2 => z7 q h1 (fun h3 => h2 (Nat.le_trans (Nat.le_add_right _ _) h3))⟩, L, z8, fun q hq => Nat.le_trans (Nat.le_add_right _ _) (z9 q hq)⟩
  · rw [z3]; simp [hP]; omega
  · show (P ++ X'.map (zz_sk k)).length < 100000
    simp [hP]; omega
  · intro i q hq
    by_cases hi : i < k
    · rw [zz_ws_sh1 hP hi] at hq
      have h9 := q6 i q (by rw [zz_ws_sh1 hP hi]; exact hq)
      have hq1 : q.1 = b + i := by
        rw [zz_ws_at] at hq
        obtain ⟨x, -, rfl⟩ := Option.map_eq_some_iff.mp hq
        rfl
      refine h9.kept ?_
      rw [hq1]
      exact z7 (b + i) (by rw [q4']; omega) (by omega)
    · have e : i = k + (i - k) := by omega
      rw [e, zz_ws_sh2 hk hP hX'] at hq
      exact z5 (i - k) q hq
