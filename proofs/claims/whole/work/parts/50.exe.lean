/-! ===== constructors run: a small machine over lists, and that it is right ===== -/
theorem zz_ws_apps {cA : Nat → ClassId} {b : Nat} {ex : Nat → Nat} {σ : zz_St} {xs : List zz_SK} : zz_ws cA b ex (σ.1 ++ xs, σ.2) = zz_ws cA b ex σ ++ xs.mapIdx (fun i x => (b + (i + σ.1.length), zz_e cA b ex (σ.2.1 (i + σ.1.length)) (σ.2.2 (i + σ.1.length)) x)) := by
  simp [zz_ws, List.mapIdx_append]
theorem zz_R.apps {D : va_G} {cA : Nat → ClassId} {b : Nat} {ex : Nat → Nat} {σ : zz_St} {H0 H H1 : Heap} {locs locs1 : List Loc} {xs : List zz_SK} (hR : zz_R D cA b ex σ H0 H locs) (hl : σ.1.length + xs.length < 100000) (z : H1.size = H.size + xs.length) (o : ∀ q : Nat, q < H.size → H1[q]? = H[q]?) (hl1 : ∀ q ∈ locs1, b ≤ q.base)
    (hx : ∀ (i : Nat) (x : zz_SK), xs[i]? = some x → va_at D zz_cl (H.size + i, zz_e cA b ex (σ.2.1 (i + σ.1.length)) (σ.2.2 (i + σ.1.length)) x) H1) : zz_R D cA b ex (σ.1 ++ xs, σ.2) H0 H1 (locs ++ locs1) := by
  obtain ⟨z1, z2, z3, z4⟩ := hR
  refine ⟨by rw [z, z1]; simp; omega, by simpa using hl, ?_, ⟨Nat.le_trans z4.1 (by omega), fun q h1 h2 => (o q (Nat.lt_of_lt_of_le h1 z4.1)).trans (z4.2.1 q h1 h2), fun q hq => ?_⟩⟩
  · rw [zz_ws_apps]
    refine (z3.kept (fun k q hq => o q.1 ((z3 k q hq).lt))).app (fun k q hq => ?_)
    rw [List.getElem?_mapIdx] at hq
    obtain ⟨x, hx1, rfl⟩ := Option.map_eq_some_iff.mp hq
    have h9 := hx k x hx1
    rw [z1, Nat.add_assoc, Nat.add_comm σ.1.length k] at h9
    exact h9
  · rcases List.mem_append.mp hq with h | h
    · exact z4.2.2 q h
    · exact hl1 q h
def zz_mty (tg : Nat) : FieldType := if tg = 0 then .int else .long
section ZZA
variable {sc : Nat × (Nat → Int32)} {d mc ms : Nat} {M : zz_MD} {pc : Nat} {L : List (Option Value)} {S : List Value} {σ : zz_St} {Q : Option Value → zz_St → Prop}
theorem Ev.manew {tg n q idx : Nat} {x y : Int32} (hd : decode M.2.1 pc = .ok (.multianewarray idx 2, 4)) (htg : tg < 2) (w1 : Cond.classLink M.1.cls idx ("[" ++ (FieldType.array (zz_mty tg)).toString) ∈ zz_WG) (hx0 : ¬ x < 0) (hy0 : ¬ y < 0) (hn : x.toNatClampNeg = n) (hq : y.toNatClampNeg = q) (hn2 : n ≤ 100000) (hq2 : q ≤ 100000) (hl : σ.1.length + (1 + n) < 100000) (hz : ∀ k, σ.1.length ≤ k → ∀ j, σ.2.1 k j = 0) (hzJ : ∀ k, σ.1.length ≤ k → ∀ j, σ.2.2 k j = 0)
    (kk : Ev sc d mc ms M (pc + 4) L (.ref σ.1.length :: S) (σ.1 ++ (.inr (tg + 5, n, (List.range n).map (fun j => some (σ.1.length + 1 + j))) :: List.replicate n (.inr (tg, q, []))), σ.2) Q) : Ev sc d (1 + n + mc) (n + n * q + ms) M pc L (.int y :: .int x :: S) σ Q := by
  intro p l e R s m args below meth c D cA b ex H locs cells slots Qt ls hC hR hL hf1 hlo hce hsl hret
  have hC' := hC
  obtain ⟨hx, hb, hml, hown, hts, hK, hX, hbl, hnm⟩ := hC
  have hover : (Cond.arrayOver (.array (zz_mty tg))).before args s = true := by
    rcases (show tg = 0 ∨ tg = 1 by omega) with rfl | rfl
    · exact zz_ao (Vm.Alike.refl _) (hK.2 (.arrayOver (.array .int)) (by decide +kernel))
    · exact zz_ao (Vm.Alike.refl _) (hK.2 (.arrayOver (.array .long)) (by decide +kernel))
  have harr : Cond.arrayClass (zz_mty tg) ∈ zz_WG := by
    rcases (show tg = 0 ∨ tg = 1 by omega) with rfl | rfl <;> decide +kernel
  have hcb : componentBytes (zz_mty tg) ≤ 8 := by
    rcases (show tg = 0 ∨ tg = 1 by omega) with rfl | rfl <;> decide
  have hdf : fits (zz_mty tg) (defaultValue (zz_mty tg)) = true := by
    rcases (show tg = 0 ∨ tg = 1 by omega) with rfl | rfl <;> rfl
  show W p l e R s m args below meth c H locs cells slots Qt (F0 m pc ls (.int y :: .int x :: S.map (zz_tr b ex)))
  refine zz_manew hx hb hown (hts _ w1) hover (hts _ harr) hd hx0 hy0 hn hq hn2 hq2 hcb hdf (by omega) (by omega) (fun H1 cO cI f1 f2 z1 g1 g2 o1 => ?_)
  have hcO : cO = cA (tg + 5) := by
    rcases (show tg = 0 ∨ tg = 1 by omega) with rfl | rfl
    · exact Option.some.inj (f1.symm.trans (hK.1.2 5 _ rfl).2)
    · exact Option.some.inj (f1.symm.trans (hK.1.2 6 _ rfl).2)
  have hcI : cI = cA tg := by
    rcases (show tg = 0 ∨ tg = 1 by omega) with rfl | rfl
    · exact Option.some.inj (f2.symm.trans (hK.1.2 0 _ rfl).2)
    · exact Option.some.inj (f2.symm.trans (hK.1.2 1 _ rfl).2)
  subst hcO
  subst hcI
  have hR1 : zz_R D cA b ex (σ.1 ++ (.inr (tg + 5, n, (List.range n).map (fun j => some (σ.1.length + 1 + j))) :: List.replicate n (.inr (tg, q, []))), σ.2) s.heap H1 (locs ++ (List.range n).map (fun j => (⟨H.size, j⟩ : Loc))) := by
    refine hR.apps (by simp; omega) (by rw [z1]; simp; omega) o1 (fun q hq => ?_) (fun i x hi => ?_)
    · obtain ⟨j, -, rfl⟩ := List.mem_map.mp hq
      show b ≤ H.size
      rw [hR.1]; omega
    · cases i with
      | zero =>
        cases hi
        have e2 : (fun j => va_rf ((((List.range n).map (fun j => some (σ.1.length + 1 + j)))[j]?.join).map (zz_ad b ex))) = (fun j => if j < n then Value.ref (H.size + 1 + j) else Value.null) := by
          funext j
          rw [List.getElem?_map]
          by_cases h : j < n
          · rw [if_pos h, List.getElem?_range h]
            show Value.ref (zz_ad b ex (σ.1.length + 1 + j)) = _
            have h8 : b + (σ.1.length + 1 + j) = H.size + 1 + j := by rw [hR.1]; omega
            rw [show zz_ad b ex (σ.1.length + 1 + j) = b + (σ.1.length + 1 + j) from if_pos (by omega), h8]
          · rw [if_neg h, List.getElem?_eq_none (by simp; omega)]
            rfl
        show H1[H.size + 0]? = some (vp_cell _ _)
        rw [Nat.add_zero, g1]
        rcases (show tg = 0 ∨ tg = 1 by omega) with rfl | rfl
        · show _ = some (arrV (cA 5) n (fun j => va_rf ((((List.range n).map (fun j => some (σ.1.length + 1 + j)))[j]?.join).map (zz_ad b ex))))
          rw [e2]
        · show _ = some (arrV (cA 6) n (fun j => va_rf ((((List.range n).map (fun j => some (σ.1.length + 1 + j)))[j]?.join).map (zz_ad b ex))))
          rw [e2]
      | succ i =>
        rw [List.getElem?_cons_succ, List.getElem?_replicate] at hi
        split at hi
        · next hin =>
          cases hi
          show H1[H.size + (i + 1)]? = some (vp_cell _ _)
          rw [show H.size + (i + 1) = H.size + 1 + i by omega, g2 i hin]
          rcases (show tg = 0 ∨ tg = 1 by omega) with rfl | rfl
          · show some _ = some (arrV (cA 0) q (fun j => .int (σ.2.1 (i + 1 + σ.1.length) j)))
            simp only [hz _ (show σ.1.length ≤ i + 1 + σ.1.length by omega)]; rfl
          · show some _ = some (arrV (cA 1) q (fun j => .long (σ.2.2 (i + 1 + σ.1.length) j)))
            simp only [hzJ _ (show σ.1.length ≤ i + 1 + σ.1.length by omega)]; rfl
        · cases hi
  have K := kk p l e R s m args below meth c D cA b ex H1 _ (cells + 1 + n) (slots + n + n * q) Qt ls hC' hR1 hL hf1 hlo (by omega) (by omega) (fun pc' ls' r' σ'' H' locs' cells' slots' a1 a2 a3 a4 a5 => hret pc' ls' r' σ'' H' locs' cells' slots' a1 a2 (by omega) (by omega) a5)
  rw [zz_new_ref hR.1 (by omega)] at K
  exact K
end ZZA
/-! the numbers, as rows of rows -/
def zz_pl {α : Type} (z : α) : List α → Nat → α → List α
  | [], 0, v => [v]
  | [], n + 1, v => z :: zz_pl z [] n v
  | _ :: t, 0, v => v :: t
  | a :: t, n + 1, v => a :: zz_pl z t n v
theorem zz_pl_nil {α : Type} (z v : α) : ∀ (n i : Nat), (zz_pl z [] n v).getD i z = if i = n then v else z := by
  intro n
  induction n with
  | zero => intro i; cases i <;> simp [zz_pl]
  | succ n ih =>
    intro i
    cases i with
    | zero => simp [zz_pl]
    | succ i => simp only [zz_pl, List.getD_cons_succ, ih, Nat.add_right_cancel_iff]
theorem zz_pl_at {α : Type} (z v : α) : ∀ (l : List α) (n i : Nat), (zz_pl z l n v).getD i z = if i = n then v else l.getD i z := by
  intro l
  induction l with
  | nil => intro n i; rw [zz_pl_nil]; simp
  | cons a t ih =>
    intro n i
    cases n with
    | zero => cases i <;> simp [zz_pl]
    | succ n =>
      cases i with
      | zero => simp [zz_pl]
      | succ i => simp only [zz_pl, List.getD_cons_succ, ih, Nat.add_right_cancel_iff]
def zz_D (dt : List (List Int32)) : Nat → Nat → Int32 := fun k j => (dt.getD k []).getD j 0
def zz_pD (dt : List (List Int32)) (k j : Nat) (v : Int32) : List (List Int32) := zz_pl [] dt k (zz_pl 0 (dt.getD k []) j v)
def zJ0 : Nat → Nat → Int64 := fun _ _ => 0
theorem zz_pD_ok (dt : List (List Int32)) (k j : Nat) (v : Int32) : zz_D (zz_pD dt k j v) = zz_up (zz_D dt) k j v := by
  funext a i
  show ((zz_pl [] dt k (zz_pl 0 (dt.getD k []) j v)).getD a []).getD i 0 = _
  rw [zz_pl_at]
  by_cases h : a = k
  · subst h
    rw [if_pos rfl, zz_pl_at, zz_up_eq]
    rfl
  · rw [if_neg h, zz_up_ne h]
    rfl
def zz_fit (SH : List zz_SK) (dt : List (List Int32)) (m : Nat) : Bool := Nat.ble dt.length SH.length && Nat.blt (SH.length + m) 100000
theorem zz_fit_ok {SH : List zz_SK} {dt : List (List Int32)} {m : Nat} (h : zz_fit SH dt m = true) : SH.length + m < 100000 ∧ ∀ k, SH.length ≤ k → ∀ j, zz_D dt k j = 0 := by
  unfold zz_fit at h
  rw [Bool.and_eq_true] at h
  refine ⟨Nat.le_of_ble_eq_true h.2, fun k hk j => ?_⟩
  have h1 := Nat.le_of_ble_eq_true h.1
  show (dt.getD k []).getD j 0 = 0
  rw [List.getD_eq_getElem?_getD (l := dt), List.getElem?_eq_none (by omega)]
  simp
/-! the tables of its links -/
def zz_tl {α : Type} (T : List (List (Nat × α))) (oc idx : Nat) : Option α := (T.getD oc []).lookup idx
theorem zz_tb_ok {α : Type} {T : List (List (Nat × α))} {P : Nat → Nat → α → Bool} (hall : (List.range 9).all (fun oc => (T.getD oc []).all (fun q => P oc q.1 q.2)) = true) (hl : T.length ≤ 9) {oc idx : Nat} {v : α} (h : zz_tl T oc idx = some v) : P oc idx v = true := by
  have hm := zz_lookup_mem h
  by_cases ho : oc < 9
  · exact List.all_eq_true.mp (List.all_eq_true.mp hall oc (List.mem_range.mpr ho)) (idx, v) hm
  · have : T.getD oc [] = [] := by
      rw [List.getD_eq_getElem?_getD, List.getElem?_eq_none (by omega)]; rfl
    rw [this] at hm
    cases hm
def zz_nw : List (List (Nat × Nat)) := [[(21, 4)], [], [(9, 4)], [(29, 4)], [], [], [(7, 4), (18, 2), (33, 1), (40, 3), (47, 0)], [], [(7, 5), (10, 6)]]
theorem zz_nw_all : (List.range 9).all (fun oc => (zz_nw.getD oc []).all (fun q => decide (q.2 < 7) && (decide (Cond.classLink (zz_cn oc) q.1 (zz_Rn q.2) ∈ zz_WG) && (decide (Cond.instantiable (zz_Rn q.2) (zz_Nn q.2) ∈ zz_WG) && decide (Cond.initialized (zz_Rn q.2) ∈ zz_WG))))) = true := by decide +kernel
theorem zz_nw_ok {oc idx ci : Nat} (h : zz_tl zz_nw oc idx = some ci) : ci < 7 ∧ Cond.classLink (zz_cn oc) idx (zz_Rn ci) ∈ zz_WG ∧ Cond.instantiable (zz_Rn ci) (zz_Nn ci) ∈ zz_WG ∧ Cond.initialized (zz_Rn ci) ∈ zz_WG := by
  have h1 := zz_tb_ok (P := fun oc idx ci => decide (ci < 7) && (decide (Cond.classLink (zz_cn oc) idx (zz_Rn ci) ∈ zz_WG) && (decide (Cond.instantiable (zz_Rn ci) (zz_Nn ci) ∈ zz_WG) && decide (Cond.initialized (zz_Rn ci) ∈ zz_WG)))) zz_nw_all (by decide) h
  simpa only [Bool.and_eq_true, decide_eq_true_eq] using h1
def zz_nq : List (List (Nat × Nat)) := [[], [], [(9, 3)], [], [], [], [(18, 4)], [], []]
theorem zz_nq_all : (List.range 9).all (fun oc => (zz_nq.getD oc []).all (fun q => decide (q.2 = 3 ∨ q.2 = 4) && decide (Cond.classLink (zz_cn oc) q.1 (zz_Rn (zz_qc q.2)) ∈ zz_WG))) = true := by decide +kernel
theorem zz_nq_ok {oc idx tg : Nat} (h : zz_tl zz_nq oc idx = some tg) : (tg = 3 ∨ tg = 4) ∧ Cond.classLink (zz_cn oc) idx (zz_Rn (zz_qc tg)) ∈ zz_WG := by
  have h1 := zz_tb_ok (P := fun oc idx tg => decide (tg = 3 ∨ tg = 4) && decide (Cond.classLink (zz_cn oc) idx (zz_Rn (zz_qc tg)) ∈ zz_WG)) zz_nq_all (by decide) h
  simpa only [Bool.and_eq_true, decide_eq_true_eq] using h1
def zz_nmt : List (List (Nat × Nat)) := [[(9, 0), (16, 1)], [], [(27, 0)], [(15, 0)], [], [], [], [], []]
theorem zz_nm_all : (List.range 9).all (fun oc => (zz_nmt.getD oc []).all (fun q => decide (q.2 < 2) && decide (Cond.classLink (zz_cn oc) q.1 ("[" ++ (FieldType.array (zz_mty q.2)).toString) ∈ zz_WG))) = true := by decide +kernel
theorem zz_nm_lk {oc idx tg : Nat} (h : zz_tl zz_nmt oc idx = some tg) : tg < 2 ∧ Cond.classLink (zz_cn oc) idx ("[" ++ (FieldType.array (zz_mty tg)).toString) ∈ zz_WG := by
  have h1 := zz_tb_ok (P := fun oc idx tg => decide (tg < 2) && decide (Cond.classLink (zz_cn oc) idx ("[" ++ (FieldType.array (zz_mty tg)).toString) ∈ zz_WG)) zz_nm_all (by decide) h
  simpa only [Bool.and_eq_true, decide_eq_true_eq] using h1
/-! the constructors, by number -/
def zz_cm (mi : Nat) : zz_MD := match mi with
  | 1 => mX4_init
  | 2 => mX2_init
  | 3 => mX1_init
  | 4 => mX3_init
  | 5 => mX0_init
  | 6 => mX6_init
  | _ => mX7_init
def zz_np (mi : Nat) : Nat := if mi = 1 then 1 else 0
def zz_so2 : List (List (Nat × Nat)) := [[(3, 0), (23, 1)], [(3, 0)], [(3, 0), (41, 1)], [(3, 0), (31, 1)], [(3, 0)], [], [(1, 0), (11, 1), (20, 2), (35, 3), (42, 4), (49, 5)], [(1, 0)], [(9, 6), (12, 7)]]
def zz_cw (oc idx mi : Nat) : Bool := match mi with
  | 0 => decide (Cond.methodLink (zz_cn oc) idx Lib.objectInit ∈ zz_WG)
  | mi => decide (Cond.methodLink (zz_cn oc) idx (zz_cm mi).1 ∈ zz_WG) || decide (Cond.methodLinkNest (zz_cn oc) idx (zz_cm mi).1 "SaidAlready" ∈ zz_nest)
theorem zz_so2_all : (List.range 9).all (fun oc => (zz_so2.getD oc []).all (fun q => zz_cw oc q.1 q.2)) = true := by decide +kernel
theorem zz_so2_ok {oc idx mi : Nat} (h : zz_tl zz_so2 oc idx = some mi) : zz_cw oc idx mi = true := zz_tb_ok (P := zz_cw) zz_so2_all (by decide) h
theorem zz_cm_all : (List.range 8).all (fun mi => decide ((zz_cm mi).2.2.2.1 = none) && (decide (Cond.code (zz_cm mi).1 (zz_cm mi).2.1 (zz_cm mi).2.2.1 (zz_cm mi).2.2.2.1 ∈ zz_WG) && (decide (Cond.initialized (zz_cm mi).1.cls ∈ zz_WG) && (decide ((zz_cm mi).1.cls ≠ "java/lang/invoke/MethodHandle" ∧ (zz_cm mi).1.cls ≠ "java/lang/invoke/VarHandle" ∧ (parseMethodDescriptor (zz_cm mi).1.desc).map (fun d => d.parameters.length) = some (zz_np mi)) && (decide ((zz_cm mi).2.2.1 ≤ 17) && (decide (Cond.instanceMethod (zz_cm mi).1 ∈ zz_WG) && (decide ((zz_cm mi).1.name = "<init>") && (decide ((zz_cm mi).1.cls = zz_cn (zz_cm mi).2.2.2.2) && (plainName (zz_cm mi).1.cls && decide (2 ≤ (zz_cm mi).2.2.1 + (1 - zz_np mi)))))))))))  = true := by decide +kernel
theorem zz_cm_ge {mi : Nat} (h : 7 ≤ mi) : zz_cm mi = mX7_init ∧ zz_np mi = 0 := by
  refine ⟨?_, if_neg (by omega)⟩
  unfold zz_cm
  split <;> first | omega | rfl
theorem zz_cm_ok (mi : Nat) : (zz_cm mi).2.2.2.1 = none ∧ Cond.code (zz_cm mi).1 (zz_cm mi).2.1 (zz_cm mi).2.2.1 (zz_cm mi).2.2.2.1 ∈ zz_WG ∧ Cond.initialized (zz_cm mi).1.cls ∈ zz_WG ∧ ((zz_cm mi).1.cls ≠ "java/lang/invoke/MethodHandle" ∧ (zz_cm mi).1.cls ≠ "java/lang/invoke/VarHandle" ∧ (parseMethodDescriptor (zz_cm mi).1.desc).map (fun d => d.parameters.length) = some (zz_np mi)) ∧ (zz_cm mi).2.2.1 ≤ 17 ∧ Cond.instanceMethod (zz_cm mi).1 ∈ zz_WG ∧ (zz_cm mi).1.name = "<init>" ∧ (zz_cm mi).1.cls = zz_cn (zz_cm mi).2.2.2.2 ∧ plainName (zz_cm mi).1.cls = true ∧ 2 ≤ (zz_cm mi).2.2.1 + (1 - zz_np mi) := by
  by_cases h : mi < 8
  · have h1 := List.all_eq_true.mp zz_cm_all mi (List.mem_range.mpr h)
    simpa only [Bool.and_eq_true, decide_eq_true_eq] using h1
  · have h1 := List.all_eq_true.mp zz_cm_all 7 (List.mem_range.mpr (by decide))
    obtain ⟨e1, e2⟩ := zz_cm_ge (mi := mi) (by omega)
    rw [e1, e2]
    simp only [Bool.and_eq_true, decide_eq_true_eq] at h1
    exact h1
/-! one instruction -/
abbrev zz_cf : Type := Nat × List (Option Value) × List Value × List zz_SK × List (List Int32) × Nat × Nat
def zz_gd {α : Type} (b : Bool) (x : α) : Option α := match b with
  | true => some x
  | false => none
theorem zz_gd_some {α : Type} {b : Bool} {x y : α} (h : zz_gd b x = some y) : b = true ∧ x = y := by
  cases b
  · cases h
  · exact ⟨rfl, Option.some.inj h⟩
def zz_xNew (oc idx n pc : Nat) (L : List (Option Value)) (S : List Value) (SH : List zz_SK) (dt : List (List Int32)) : Option zz_cf := match zz_tl zz_nw oc idx with
  | some ci => zz_gd (Nat.beq n 3 && zz_fit SH dt 1) (pc + 3, L, .ref SH.length :: S, SH ++ [.inl (ci, zz_df ci)], dt, 1, zz_Nn ci)
  | none => none
def zz_ta (a : ArrayType) : Option Nat := match a with
  | .int => some 0
  | .long => some 1
  | .boolean => some 2
  | _ => none
def zz_xNewa (a : ArrayType) (n pc : Nat) (L : List (Option Value)) (S : List Value) (SH : List zz_SK) (dt : List (List Int32)) : Option zz_cf := match S with
  | .int x :: r => match zz_ta a with
    | some tg => zz_gd (Nat.beq n 2 && (zz_fit SH dt 1 && (!(decide (x < 0)) && Nat.ble x.toNatClampNeg 100000))) (pc + 2, L, .ref SH.length :: r, SH ++ [.inr (tg, x.toNatClampNeg, [])], dt, 1, x.toNatClampNeg)
    | none => none
  | _ => none
def zz_xNewq (oc idx n pc : Nat) (L : List (Option Value)) (S : List Value) (SH : List zz_SK) (dt : List (List Int32)) : Option zz_cf := match S with
  | .int x :: r => match zz_tl zz_nq oc idx with
    | some tg => zz_gd (Nat.beq n 3 && (zz_fit SH dt 1 && (!(decide (x < 0)) && Nat.ble x.toNatClampNeg 100000))) (pc + 3, L, .ref SH.length :: r, SH ++ [.inr (tg, x.toNatClampNeg, List.replicate x.toNatClampNeg none)], dt, 1, x.toNatClampNeg)
    | none => none
  | _ => none
def zz_xMan (oc idx dim n pc : Nat) (L : List (Option Value)) (S : List Value) (SH : List zz_SK) (dt : List (List Int32)) : Option zz_cf := match S with
  | .int y :: .int x :: r => match zz_tl zz_nmt oc idx with
    | some tg => zz_gd (Nat.beq n 4 && (Nat.beq dim 2 && (zz_fit SH dt (1 + x.toNatClampNeg) && (!(decide (x < 0)) && (!(decide (y < 0)) && (Nat.ble x.toNatClampNeg 100000 && Nat.ble y.toNatClampNeg 100000)))))) (pc + 4, L, .ref SH.length :: r, SH ++ (.inr (tg + 5, x.toNatClampNeg, (List.range x.toNatClampNeg).map (fun j => some (SH.length + 1 + j))) :: List.replicate x.toNatClampNeg (.inr (tg, y.toNatClampNeg, []))), dt, 1 + x.toNatClampNeg, x.toNatClampNeg + x.toNatClampNeg * y.toNatClampNeg)
    | none => none
  | _ => none
def zz_oci (ci : Nat) : Nat := if ci < 5 then ci else ci + 1
def zz_isN (x : Option (Option (Option Nat))) : Bool := match x with
  | some (some none) => true
  | _ => false
def zz_isI (x : Option (Option (Option Nat))) : Bool := match x with
  | some none => true
  | _ => false
def zz_xPut (oc idx n pc : Nat) (L : List (Option Value)) (S : List Value) (SH : List zz_SK) (dt : List (List Int32)) : Option zz_cf := match S with
  | .ref q :: .ref k :: r => match zz_fl oc idx, SH[k]? with
    | some (ci, j), some (.inl o) => zz_gd (Nat.beq n 3 && (Nat.beq ci o.1 && (Nat.beq oc (zz_oci ci) && (zz_isN ((zz_df ci)[j]?) && zz_isN (o.2[j]?))))) (pc + 3, L, r, SH.set k (.inl (ci, o.2.set j (some (some q)))), dt, 0, 0)
    | _, _ => none
  | .int v :: .ref k :: r => match zz_fl oc idx, SH[k]? with
    | some (ci, j), some (.inl o) => zz_gd (Nat.beq n 3 && (Nat.beq ci o.1 && (zz_isI ((zz_df ci)[j]?) && zz_isI (o.2[j]?)))) (pc + 3, L, r, SH, zz_pD dt k j v, 0, 0)
    | _, _ => none
  | _ => none
def zz_xAst (n pc : Nat) (L : List (Option Value)) (S : List Value) (SH : List zz_SK) (dt : List (List Int32)) : Option zz_cf := match S with
  | .ref q :: .int i :: .ref k :: r => match SH[k]?, SH[q]? with
    | some (.inr a), some (.inl o) => zz_gd (Nat.beq n 1 && (!(decide (i < 0)) && (Nat.blt i.toNatClampNeg a.2.1 && (Nat.beq o.1 (zz_qc a.1) && ((Nat.beq a.1 3 || Nat.beq a.1 4) && Nat.beq a.2.2.length a.2.1))))) (pc + 1, L, r, SH.set k (.inr (a.1, a.2.1, a.2.2.set i.toNatClampNeg (some q))), dt, 0, 0)
    | _, _ => none
  | _ => none
def zz_xIst (n pc : Nat) (L : List (Option Value)) (S : List Value) (SH : List zz_SK) (dt : List (List Int32)) : Option zz_cf := match S with
  | .int v :: .int i :: .ref k :: r => match SH[k]? with
    | some (.inr a) => zz_gd (Nat.beq n 1 && (!(decide (i < 0)) && (Nat.blt i.toNatClampNeg a.2.1 && Nat.beq a.1 0))) (pc + 1, L, r, SH, zz_pD dt k i.toNatClampNeg v, 0, 0)
    | _ => none
  | _ => none
def zz_xGo (off : Int) (n pc : Nat) (L : List (Option Value)) (S : List Value) (SH : List zz_SK) (dt : List (List Int32)) : Option zz_cf :=
  zz_gd (Nat.beq n 3 && decide ((pc : Int) + off = (((pc : Int) + off).toNat : Int))) (((pc : Int) + off).toNat, L, S, SH, dt, 0, 0)
def zz_xIge (off : Int) (n pc : Nat) (L : List (Option Value)) (S : List Value) (SH : List zz_SK) (dt : List (List Int32)) : Option zz_cf := match S with
  | .int y :: .int x :: r => zz_gd (Nat.beq n 3 && decide ((pc : Int) + off = (((pc : Int) + off).toNat : Int))) (if y ≤ x then (((pc : Int) + off).toNat, L, r, SH, dt, 0, 0) else (pc + 3, L, r, SH, dt, 0, 0))
  | _ => none
def zz_xFge (off : Int) (n pc : Nat) (L : List (Option Value)) (S : List Value) (SH : List zz_SK) (dt : List (List Int32)) : Option zz_cf := match S with
  | .int x :: r => zz_gd (Nat.beq n 3 && decide ((pc : Int) + off = (((pc : Int) + off).toNat : Int))) (if 0 ≤ x then (((pc : Int) + off).toNat, L, r, SH, dt, 0, 0) else (pc + 3, L, r, SH, dt, 0, 0))
  | _ => none
def zz_xEls (oc : Nat) (i : Instr) (n pc : Nat) (L : List (Option Value)) (S : List Value) (SH : List zz_SK) (dt : List (List Int32)) : Option zz_cf := match zz_stepG oc (SH, zz_D dt, zJ0) i n pc L S with
  | some (pc', L', S') => some (pc', L', S', SH, dt, 0, 0)
  | none => none
def zz_cx (oc : Nat) (i : Instr) (n pc : Nat) (L : List (Option Value)) (S : List Value) (SH : List zz_SK) (dt : List (List Int32)) : Option zz_cf := match i with
  | .new idx => zz_xNew oc idx n pc L S SH dt
  | .newarray a => zz_xNewa a n pc L S SH dt
  | .anewarray idx => zz_xNewq oc idx n pc L S SH dt
  | .multianewarray idx dim => zz_xMan oc idx dim n pc L S SH dt
  | .putfield idx => zz_xPut oc idx n pc L S SH dt
  | .aastore => zz_xAst n pc L S SH dt
  | .iastore => zz_xIst n pc L S SH dt
  | .goto off => zz_xGo off n pc L S SH dt
  | .if_icmp .ge off => zz_xIge off n pc L S SH dt
  | .ifCond .ge off => zz_xFge off n pc L S SH dt
  | i => zz_xEls oc i n pc L S SH dt
theorem zz_pf_all : ∀ ci, ci < 7 → ∀ j, j < zz_Nn ci → (zz_isN ((zz_df ci)[j]?) = true → (zz_Tn ci j).2.2.2 = true ∧ (zz_Tn ci j).1 = zz_cn (zz_oci ci) ∧ (zz_tn ci j).isReference = true) ∧ (zz_isI ((zz_df ci)[j]?) = true → (zz_Tn ci j).2.2 = ("I", false)) := by decide +kernel
theorem zz_isN_ok {x : Option (Option (Option Nat))} (h : zz_isN x = true) : x = some (some none) := by
  unfold zz_isN at h
  split at h
  · rfl
  · cases h
theorem zz_isI_ok {x : Option (Option (Option Nat))} (h : zz_isI x = true) : x = some none := by
  unfold zz_isI at h
  split at h
  · rfl
  · cases h
theorem zz_nlt {x : Int32} (h : (!(decide (x < 0))) = true) : ¬ x < 0 := by
  intro h1
  rw [decide_eq_true h1] at h
  cases h
section ZZX
variable {sc : Nat × (Nat → Int32)} {d mc ms mi : Nat} {pc n : Nat} {L : List (Option Value)} {S : List Value} {SH : List zz_SK} {dt : List (List Int32)} {Q : Option Value → zz_St → Prop} {t : zz_cf}
theorem zz_xNew_ok {idx : Nat} (hd : decode (zz_cm mi).2.1 pc = .ok (.new idx, n)) (h : zz_xNew (zz_cm mi).2.2.2.2 idx n pc L S SH dt = some t) (kk : Ev sc d mc ms (zz_cm mi) t.1 t.2.1 t.2.2.1 (t.2.2.2.1, zz_D t.2.2.2.2.1, zJ0) Q) : Ev sc d (t.2.2.2.2.2.1 + mc) (t.2.2.2.2.2.2 + ms) (zz_cm mi) pc L S (SH, zz_D dt, zJ0) Q := by
  unfold zz_xNew at h
  split at h
  · next ci hci =>
    obtain ⟨h1, rfl⟩ := zz_gd_some h
    rw [Bool.and_eq_true] at h1
    obtain ⟨g1, g2⟩ := zz_fit_ok h1.2
    obtain ⟨w0, w1, w2, w3⟩ := zz_nw_ok hci
    rw [Nat.eq_of_beq_eq_true h1.1] at hd
    exact Ev.new (σ := (SH, zz_D dt, zJ0)) hd w0 (by rw [(zz_cm_ok mi).2.2.2.2.2.2.2.1]; exact w1) w2 w3 g1 (g2 _ (Nat.le_refl _)) kk
  · cases h
theorem zz_xNewa_ok {a : ArrayType} (hd : decode (zz_cm mi).2.1 pc = .ok (.newarray a, n)) (h : zz_xNewa a n pc L S SH dt = some t) (kk : Ev sc d mc ms (zz_cm mi) t.1 t.2.1 t.2.2.1 (t.2.2.2.1, zz_D t.2.2.2.2.1, zJ0) Q) : Ev sc d (t.2.2.2.2.2.1 + mc) (t.2.2.2.2.2.2 + ms) (zz_cm mi) pc L S (SH, zz_D dt, zJ0) Q := by
  unfold zz_xNewa at h
  split at h
  · next x r =>
    split at h
    · next tg htg =>
      obtain ⟨h1, rfl⟩ := zz_gd_some h
      simp only [Bool.and_eq_true] at h1
      obtain ⟨g1, g2⟩ := zz_fit_ok h1.2.1
      rw [Nat.eq_of_beq_eq_true h1.1] at hd
      have ha : tg < 3 ∧ a = zz_at tg := by
        unfold zz_ta at htg
        split at htg <;> first | (cases htg; exact ⟨by decide, rfl⟩) | cases htg
      rw [ha.2] at hd
      exact Ev.newa (σ := (SH, zz_D dt, zJ0)) hd ha.1 (zz_nlt h1.2.2.1) rfl (Nat.le_of_ble_eq_true h1.2.2.2) g1 (g2 _ (Nat.le_refl _)) (fun _ => rfl) kk
    · cases h
  · cases h
theorem zz_xNewq_ok {idx : Nat} (hd : decode (zz_cm mi).2.1 pc = .ok (.anewarray idx, n)) (h : zz_xNewq (zz_cm mi).2.2.2.2 idx n pc L S SH dt = some t) (kk : Ev sc d mc ms (zz_cm mi) t.1 t.2.1 t.2.2.1 (t.2.2.2.1, zz_D t.2.2.2.2.1, zJ0) Q) : Ev sc d (t.2.2.2.2.2.1 + mc) (t.2.2.2.2.2.2 + ms) (zz_cm mi) pc L S (SH, zz_D dt, zJ0) Q := by
  unfold zz_xNewq at h
  split at h
  · next x r =>
    split at h
    · next tg htg =>
      obtain ⟨h1, rfl⟩ := zz_gd_some h
      simp only [Bool.and_eq_true] at h1
      obtain ⟨g1, g2⟩ := zz_fit_ok h1.2.1
      obtain ⟨w0, w1⟩ := zz_nq_ok htg
      rw [Nat.eq_of_beq_eq_true h1.1] at hd
      exact Ev.newq (σ := (SH, zz_D dt, zJ0)) hd w0 (by rw [(zz_cm_ok mi).2.2.2.2.2.2.2.1]; exact w1) (zz_nlt h1.2.2.1) rfl (Nat.le_of_ble_eq_true h1.2.2.2) g1 kk
    · cases h
  · cases h
theorem zz_xMan_ok {idx dim : Nat} (hd : decode (zz_cm mi).2.1 pc = .ok (.multianewarray idx dim, n)) (h : zz_xMan (zz_cm mi).2.2.2.2 idx dim n pc L S SH dt = some t) (kk : Ev sc d mc ms (zz_cm mi) t.1 t.2.1 t.2.2.1 (t.2.2.2.1, zz_D t.2.2.2.2.1, zJ0) Q) : Ev sc d (t.2.2.2.2.2.1 + mc) (t.2.2.2.2.2.2 + ms) (zz_cm mi) pc L S (SH, zz_D dt, zJ0) Q := by
  unfold zz_xMan at h
  split at h
  · next y x r =>
    split at h
    · next tg htg =>
      obtain ⟨h1, rfl⟩ := zz_gd_some h
      simp only [Bool.and_eq_true] at h1
      obtain ⟨g1, g2⟩ := zz_fit_ok h1.2.2.1
      obtain ⟨w0, w1⟩ := zz_nm_lk htg
      rw [Nat.eq_of_beq_eq_true h1.1, Nat.eq_of_beq_eq_true h1.2.1] at hd
      exact Ev.manew (σ := (SH, zz_D dt, zJ0)) hd w0 (by rw [(zz_cm_ok mi).2.2.2.2.2.2.2.1]; exact w1) (zz_nlt h1.2.2.2.1) (zz_nlt h1.2.2.2.2.1) rfl rfl (Nat.le_of_ble_eq_true h1.2.2.2.2.2.1) (Nat.le_of_ble_eq_true h1.2.2.2.2.2.2) g1 g2 (fun _ _ _ => rfl) kk
    · cases h
  · cases h
theorem Ev.z0 {M : zz_MD} {σ : zz_St} (h : Ev sc d mc ms M pc L S σ Q) : Ev sc d (0 + mc) (0 + ms) M pc L S σ Q := by
  rw [Nat.zero_add, Nat.zero_add]; exact h
theorem zz_xPut_ok {idx : Nat} (hd : decode (zz_cm mi).2.1 pc = .ok (.putfield idx, n)) (h : zz_xPut (zz_cm mi).2.2.2.2 idx n pc L S SH dt = some t) (kk : Ev sc d mc ms (zz_cm mi) t.1 t.2.1 t.2.2.1 (t.2.2.2.1, zz_D t.2.2.2.2.1, zJ0) Q) : Ev sc d (t.2.2.2.2.2.1 + mc) (t.2.2.2.2.2.2 + ms) (zz_cm mi) pc L S (SH, zz_D dt, zJ0) Q := by
  unfold zz_xPut at h
  split at h
  · next q k r =>
    split at h
    · next ci j o h1 h2 =>
      obtain ⟨h3, rfl⟩ := zz_gd_some h
      simp only [Bool.and_eq_true] at h3
      obtain ⟨ci', fs⟩ := o
      have e1 : ci = ci' := Nat.eq_of_beq_eq_true h3.2.1
      subst e1
      obtain ⟨g1, g2, -⟩ := zz_fl_ok h1
      obtain ⟨p1, p2, p3⟩ := (zz_pf_all ci g1 j g2).1 h3.2.2.2.1
      rw [Nat.eq_of_beq_eq_true h3.1] at hd
      have e2 := (zz_cm_ok mi).2.2.2.2.2.2.2.1
      exact Ev.z0 (Ev.putr (σ := (SH, zz_D dt, zJ0)) e2 (zz_cm_ok mi).2.2.2.2.2.2.1 h1 ⟨p1, by rw [e2, Nat.eq_of_beq_eq_true h3.2.2.1]; exact p2⟩ hd h2 (zz_isN_ok h3.2.2.2.2) p3 kk)
    · cases h
  · next v k r =>
    split at h
    · next ci j o h1 h2 =>
      obtain ⟨h3, rfl⟩ := zz_gd_some h
      simp only [Bool.and_eq_true] at h3
      obtain ⟨ci', fs⟩ := o
      have e1 : ci = ci' := Nat.eq_of_beq_eq_true h3.2.1
      subst e1
      obtain ⟨g1, g2, -⟩ := zz_fl_ok h1
      rw [Nat.eq_of_beq_eq_true h3.1] at hd
      have kk2 : Ev sc d mc ms (zz_cm mi) (pc + 3) L r (SH, zz_D (zz_pD dt k j v), zJ0) Q := kk
      rw [zz_pD_ok] at kk2
      exact Ev.z0 (Ev.putf (σ := (SH, zz_D dt, zJ0)) (zz_cm_ok mi).2.2.2.2.2.2.2.1 h1 ((zz_pf_all ci g1 j g2).2 h3.2.2.1) hd h2 (zz_isI_ok h3.2.2.2) kk2)
    · cases h
  · cases h
theorem zz_vpin {i : Int32} {n : Nat} (h : ¬ i < 0) (h2 : Nat.blt i.toNatClampNeg n = true) : vp_in i n := fun q => q.elim h (fun q => absurd (Nat.le_of_ble_eq_true h2) (by omega))
theorem zz_xAst_ok (hd : decode (zz_cm mi).2.1 pc = .ok (.aastore, n)) (h : zz_xAst n pc L S SH dt = some t) (kk : Ev sc d mc ms (zz_cm mi) t.1 t.2.1 t.2.2.1 (t.2.2.2.1, zz_D t.2.2.2.2.1, zJ0) Q) : Ev sc d (t.2.2.2.2.2.1 + mc) (t.2.2.2.2.2.2 + ms) (zz_cm mi) pc L S (SH, zz_D dt, zJ0) Q := by
  unfold zz_xAst at h
  split at h
  · next q i k r =>
    split at h
    · next a o h1 h2 =>
      obtain ⟨h3, rfl⟩ := zz_gd_some h
      simp only [Bool.and_eq_true, Bool.or_eq_true] at h3
      obtain ⟨tg, nn, rs⟩ := a
      obtain ⟨ci, fs⟩ := o
      have e1 : ci = zz_qc tg := Nat.eq_of_beq_eq_true h3.2.2.2.1
      subst e1
      rw [Nat.eq_of_beq_eq_true h3.1] at hd
      exact Ev.z0 (Ev.aast (σ := (SH, zz_D dt, zJ0)) hd h1 (h3.2.2.2.2.1.imp Nat.eq_of_beq_eq_true Nat.eq_of_beq_eq_true) h2 (zz_vpin (zz_nlt h3.2.1) h3.2.2.1) (Nat.eq_of_beq_eq_true h3.2.2.2.2.2) kk)
    · cases h
  · cases h
theorem zz_xIst_ok (hd : decode (zz_cm mi).2.1 pc = .ok (.iastore, n)) (h : zz_xIst n pc L S SH dt = some t) (kk : Ev sc d mc ms (zz_cm mi) t.1 t.2.1 t.2.2.1 (t.2.2.2.1, zz_D t.2.2.2.2.1, zJ0) Q) : Ev sc d (t.2.2.2.2.2.1 + mc) (t.2.2.2.2.2.2 + ms) (zz_cm mi) pc L S (SH, zz_D dt, zJ0) Q := by
  unfold zz_xIst at h
  split at h
  · next v i k r =>
    split at h
    · next a h1 =>
      obtain ⟨h3, rfl⟩ := zz_gd_some h
      simp only [Bool.and_eq_true] at h3
      obtain ⟨tg, nn, rs⟩ := a
      have e1 : tg = 0 := Nat.eq_of_beq_eq_true h3.2.2.2
      subst e1
      rw [Nat.eq_of_beq_eq_true h3.1] at hd
      have kk2 : Ev sc d mc ms (zz_cm mi) (pc + 1) L r (SH, zz_D (zz_pD dt k i.toNatClampNeg v), zJ0) Q := kk
      rw [zz_pD_ok] at kk2
      exact Ev.z0 (Ev.iast0 (σ := (SH, zz_D dt, zJ0)) hd h1 (zz_vpin (zz_nlt h3.2.1) h3.2.2.1) kk2)
    · cases h
  · cases h
theorem zz_xGo_ok {off : Int} (hd : decode (zz_cm mi).2.1 pc = .ok (.goto off, n)) (h : zz_xGo off n pc L S SH dt = some t) (kk : Ev sc d mc ms (zz_cm mi) t.1 t.2.1 t.2.2.1 (t.2.2.2.1, zz_D t.2.2.2.2.1, zJ0) Q) : Ev sc d (t.2.2.2.2.2.1 + mc) (t.2.2.2.2.2.2 + ms) (zz_cm mi) pc L S (SH, zz_D dt, zJ0) Q := by
  unfold zz_xGo at h
  obtain ⟨h3, rfl⟩ := zz_gd_some h
  simp only [Bool.and_eq_true, decide_eq_true_eq] at h3
  rw [Nat.eq_of_beq_eq_true h3.1] at hd
  exact Ev.z0 (Ev.goto hd h3.2 kk)
theorem zz_xIge_ok {off : Int} (hd : decode (zz_cm mi).2.1 pc = .ok (.if_icmp .ge off, n)) (h : zz_xIge off n pc L S SH dt = some t) (kk : Ev sc d mc ms (zz_cm mi) t.1 t.2.1 t.2.2.1 (t.2.2.2.1, zz_D t.2.2.2.2.1, zJ0) Q) : Ev sc d (t.2.2.2.2.2.1 + mc) (t.2.2.2.2.2.2 + ms) (zz_cm mi) pc L S (SH, zz_D dt, zJ0) Q := by
  unfold zz_xIge at h
  split at h
  · next y x r =>
    obtain ⟨h3, rfl⟩ := zz_gd_some h
    simp only [Bool.and_eq_true, decide_eq_true_eq] at h3
    rw [Nat.eq_of_beq_eq_true h3.1] at hd
    by_cases hc : y ≤ x
    · rw [if_pos hc] at kk ⊢
      exact Ev.z0 (Ev.icmp_ge hd h3.2 (fun _ => kk) (fun h9 => absurd hc h9))
    · rw [if_neg hc] at kk ⊢
      exact Ev.z0 (Ev.icmp_ge hd h3.2 (fun h9 => absurd h9 hc) (fun _ => kk))
  · cases h
theorem zz_xFge_ok {off : Int} (hd : decode (zz_cm mi).2.1 pc = .ok (.ifCond .ge off, n)) (h : zz_xFge off n pc L S SH dt = some t) (kk : Ev sc d mc ms (zz_cm mi) t.1 t.2.1 t.2.2.1 (t.2.2.2.1, zz_D t.2.2.2.2.1, zJ0) Q) : Ev sc d (t.2.2.2.2.2.1 + mc) (t.2.2.2.2.2.2 + ms) (zz_cm mi) pc L S (SH, zz_D dt, zJ0) Q := by
  unfold zz_xFge at h
  split at h
  · next x r =>
    obtain ⟨h3, rfl⟩ := zz_gd_some h
    simp only [Bool.and_eq_true, decide_eq_true_eq] at h3
    rw [Nat.eq_of_beq_eq_true h3.1] at hd
    by_cases hc : 0 ≤ x
    · rw [if_pos hc] at kk ⊢
      exact Ev.z0 (Ev.if_ge hd h3.2 (fun _ => kk) (fun h9 => absurd hc h9))
    · rw [if_neg hc] at kk ⊢
      exact Ev.z0 (Ev.if_ge hd h3.2 (fun h9 => absurd h9 hc) (fun _ => kk))
  · cases h
theorem zz_xEls_ok {i : Instr} (hd : decode (zz_cm mi).2.1 pc = .ok (i, n)) (h : zz_xEls (zz_cm mi).2.2.2.2 i n pc L S SH dt = some t) (kk : Ev sc d mc ms (zz_cm mi) t.1 t.2.1 t.2.2.1 (t.2.2.2.1, zz_D t.2.2.2.2.1, zJ0) Q) : Ev sc d (t.2.2.2.2.2.1 + mc) (t.2.2.2.2.2.2 + ms) (zz_cm mi) pc L S (SH, zz_D dt, zJ0) Q := by
  unfold zz_xEls at h
  split at h
  · next pc' L' S' h1 =>
    cases h
    exact Ev.z0 (Ev.stepG (zz_cm_ok mi).2.2.2.2.2.2.2.1 hd h1 kk).1
  · cases h
theorem zz_cx_ok {i : Instr} (hd : decode (zz_cm mi).2.1 pc = .ok (i, n)) (h : zz_cx (zz_cm mi).2.2.2.2 i n pc L S SH dt = some t) (kk : Ev sc d mc ms (zz_cm mi) t.1 t.2.1 t.2.2.1 (t.2.2.2.1, zz_D t.2.2.2.2.1, zJ0) Q) : Ev sc d (t.2.2.2.2.2.1 + mc) (t.2.2.2.2.2.2 + ms) (zz_cm mi) pc L S (SH, zz_D dt, zJ0) Q := by
  unfold zz_cx at h
  split at h
  · exact zz_xNew_ok hd h kk
  · exact zz_xNewa_ok hd h kk
  · exact zz_xNewq_ok hd h kk
  · exact zz_xMan_ok hd h kk
  · exact zz_xPut_ok hd h kk
  · exact zz_xAst_ok hd h kk
  · exact zz_xIst_ok hd h kk
  · exact zz_xGo_ok hd h kk
  · exact zz_xIge_ok hd h kk
  · exact zz_xFge_ok hd h kk
  · exact zz_xEls_ok hd h kk
end ZZX
