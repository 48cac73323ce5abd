/-! ===== single steps ===== -/
def zz_psh (pc n : Nat) (L : List (Option Value)) (S : List Value) (v : Value) : Option (Nat × List (Option Value) × List Value) := some (pc + n, L, v :: S)
def zz_ld (pc n : Nat) (L : List (Option Value)) (S : List Value) (t : Nat) (i : Nat) : Option (Nat × List (Option Value) × List Value) := match t, zz_lk L i with
  | 0, some (.int x) => some (pc + n, L, .int x :: S)
  | 1, some (.ref x) => some (pc + n, L, .ref x :: S)
  | 2, some (.long x) => some (pc + n, L, .long x :: S)
  | _, _ => none
def zz_so (pc n : Nat) (L : List (Option Value)) (S : List Value) (t : Nat) (i : Nat) : Option (Nat × List (Option Value) × List Value) := match Nat.blt i L.length && zz_n2 L i with
  | false => none
  | true => match t, S with
    | 0, .int x :: r => some (pc + n, L.set i (some (.int x)), r)
    | 1, .ref x :: r => some (pc + n, L.set i (some (.ref x)), r)
    | 2, .long x :: r => match Nat.blt (i + 1) L.length with
      | true => some (pc + n, (L.set i (some (.long x))).set (i + 1) none, r)
      | false => none
    | _, _ => none
def zz_b2 (pc n : Nat) (L : List (Option Value)) (S : List Value) (f : Int32 → Int32 → Int32) : Option (Nat × List (Option Value) × List Value) := match S with
  | .int y :: .int x :: r => some (pc + n, L, .int (f x y) :: r)
  | _ => none
def zz_step (i : Instr) (n pc : Nat) (L : List (Option Value)) (S : List Value) : Option (Nat × List (Option Value) × List Value) := match i with
  | .iload_n k => zz_ld pc n L S 0 k.val
  | .iload k => zz_ld pc n L S 0 k
  | .aload_n k => zz_ld pc n L S 1 k.val
  | .aload k => zz_ld pc n L S 1 k
  | .lload k => zz_ld pc n L S 2 k
  | .istore_n k => zz_so pc n L S 0 k.val
  | .istore k => zz_so pc n L S 0 k
  | .astore_n k => zz_so pc n L S 1 k.val
  | .astore k => zz_so pc n L S 1 k
  | .lstore k => zz_so pc n L S 2 k
  | .iconst v => zz_psh pc n L S (.int (Int32.ofInt v))
  | .bipush v => zz_psh pc n L S (.int (Int8.ofInt v).toInt32)
  | .sipush v => zz_psh pc n L S (.int (Int16.ofInt v).toInt32)
  | .lconst v => zz_psh pc n L S (.long (Int64.ofNat v.val))
  | .iadd => zz_b2 pc n L S (fun x y => x + y)
  | .isub => zz_b2 pc n L S (fun x y => x - y)
  | .imul => zz_b2 pc n L S (fun x y => x * y)
  | .iand => zz_b2 pc n L S (fun x y => x &&& y)
  | .ior => zz_b2 pc n L S (fun x y => x ||| y)
  | .ishl => zz_b2 pc n L S (fun x y => x <<< (y &&& 31))
  | .ishr => zz_b2 pc n L S (fun x y => x >>> (y &&& 31))
  | .iushr => zz_b2 pc n L S (fun x y => (x.toUInt32 >>> (y.toUInt32 &&& Int32.toUInt32 31)).toInt32)
  | .ineg => match S with
    | .int x :: r => some (pc + n, L, .int (-x) :: r)
    | _ => none
  | .i2l => match S with
    | .int x :: r => some (pc + n, L, .long x.toInt64 :: r)
    | _ => none
  | .ladd => match S with
    | .long y :: .long x :: r => some (pc + n, L, .long (x + y) :: r)
    | _ => none
  | .lcmp => match S with
    | .long y :: .long x :: r => some (pc + n, L, .int (lg_cmp x y) :: r)
    | _ => none
  | .iinc k v => match zz_lk L k, (Nat.blt k L.length && zz_n2 L k) with
    | some (.int x), true => some (pc + n, L.set k (some (.int (x + Int32.ofInt v))), S)
    | _, _ => none
  | .dup => match S with
    | .int x :: r => some (pc + n, L, .int x :: .int x :: r)
    | .ref x :: r => some (pc + n, L, .ref x :: .ref x :: r)
    | _ => none
  | .dup2 => match S with
    | .int x :: .int y :: r => some (pc + n, L, .int x :: .int y :: .int x :: .int y :: r)
    | .int x :: .ref y :: r => some (pc + n, L, .int x :: .ref y :: .int x :: .ref y :: r)
    | _ => none
  | .pop => match S with
    | .int _ :: r => some (pc + n, L, r)
    | _ => none
  | _ => none
def zz_len (i : Instr) : Nat := match i with
  | .iload _ => 2
  | .aload _ => 2
  | .lload _ => 2
  | .istore _ => 2
  | .astore _ => 2
  | .lstore _ => 2
  | .bipush _ => 2
  | .sipush _ => 3
  | .iinc _ _ => 3
  | _ => 1
section ZZ1
variable {p : Program} {l : Launch} {e : Env} {R : Room} {s : State} {m : MethodId} {args : Array Value} {below : List Frame} {meth : Method} {c : Code} {H : Heap} {locs : List Loc} {cells slots : Nat} {Qt : State → Prop} {cc : ByteArray} {pc : Nat} {ls : Array Slot} {b : Nat} {ex : Nat → Nat} {nL : Nat} {L L' : List (Option Value)} {S S' : List Value} {pc' : Nat}
theorem zz_ld_i {i : Nat} {n : Nat} (h : zz_ld pc n L S 0 i = some (pc', L', S')) : ∃ x : Int32, L[i]? = some (some (.int x)) ∧ pc' = pc + n ∧ L' = L ∧ S' = .int x :: S := by
  unfold zz_ld at h
  split at h
  · next x _ hx => cases h; exact ⟨x, zz_lk_spec hx, rfl, rfl, rfl⟩
  all_goals (first | (next h0 _ => exact absurd h0 (by decide)) | cases h)
theorem zz_ld_a {i : Nat} {n : Nat} (h : zz_ld pc n L S 1 i = some (pc', L', S')) : ∃ x : Nat, L[i]? = some (some (.ref x)) ∧ pc' = pc + n ∧ L' = L ∧ S' = .ref x :: S := by
  unfold zz_ld at h
  split at h
  · next h0 _ => exact absurd h0 (by decide)
  · next x _ hx => cases h; exact ⟨x, zz_lk_spec hx, rfl, rfl, rfl⟩
  all_goals (first | (next h0 _ => exact absurd h0 (by decide)) | cases h)
theorem zz_ld_l {i : Nat} {n : Nat} (h : zz_ld pc n L S 2 i = some (pc', L', S')) : ∃ x : Int64, L[i]? = some (some (.long x)) ∧ pc' = pc + n ∧ L' = L ∧ S' = .long x :: S := by
  unfold zz_ld at h
  split at h
  · next h0 _ => exact absurd h0 (by decide)
  · next h0 _ => exact absurd h0 (by decide)
  · next x _ hx => cases h; exact ⟨x, zz_lk_spec hx, rfl, rfl, rfl⟩
  · cases h
theorem zz_so_i {i : Nat} {n : Nat} (h : zz_so pc n L S 0 i = some (pc', L', S')) : ∃ (x : Int32), S = .int x :: S' ∧ i < L.length ∧ zz_n2 L i = true ∧ pc' = pc + n ∧ L' = L.set i (some (.int x)) := by
  unfold zz_so at h
  split at h
  · cases h
  · next hc =>
    rw [Bool.and_eq_true] at hc
    split at h
    · cases h; exact ⟨_, rfl, Nat.le_of_ble_eq_true hc.1, hc.2, rfl, rfl⟩
    · next h0 => exact absurd h0 (by decide)
    · next h0 => exact absurd h0 (by decide)
    · cases h
theorem zz_so_a {i : Nat} {n : Nat} (h : zz_so pc n L S 1 i = some (pc', L', S')) : ∃ (x : Nat), S = .ref x :: S' ∧ i < L.length ∧ zz_n2 L i = true ∧ pc' = pc + n ∧ L' = L.set i (some (.ref x)) := by
  unfold zz_so at h
  split at h
  · cases h
  · next hc =>
    rw [Bool.and_eq_true] at hc
    split at h
    · next h0 => exact absurd h0 (by decide)
    · cases h; exact ⟨_, rfl, Nat.le_of_ble_eq_true hc.1, hc.2, rfl, rfl⟩
    · next h0 => exact absurd h0 (by decide)
    · cases h
theorem zz_so_l {i : Nat} {n : Nat} (h : zz_so pc n L S 2 i = some (pc', L', S')) : ∃ (x : Int64), S = .long x :: S' ∧ i + 1 < L.length ∧ zz_n2 L i = true ∧ pc' = pc + n ∧ L' = (L.set i (some (.long x))).set (i + 1) none := by
  unfold zz_so at h
  split at h
  · cases h
  · next hc =>
    rw [Bool.and_eq_true] at hc
    split at h
    · next h0 => exact absurd h0 (by decide)
    · next h0 => exact absurd h0 (by decide)
    · split at h
      · next h9 => cases h; exact ⟨_, rfl, Nat.le_of_ble_eq_true h9, hc.2, rfl, rfl⟩
      · cases h
    · cases h
theorem zz_b2_i {n : Nat} {f : Int32 → Int32 → Int32} (h : zz_b2 pc n L S f = some (pc', L', S')) : ∃ (x y : Int32) (r : List Value), S = .int y :: .int x :: r ∧ pc' = pc + n ∧ L' = L ∧ S' = .int (f x y) :: r := by
  unfold zz_b2 at h
  split at h
  · cases h; exact ⟨_, _, _, rfl, rfl, rfl, rfl⟩
  · cases h
end ZZ1
set_option maxHeartbeats 4000000 in
theorem Ev.step {sc : Nat × (Nat → Int32)} {d mc ms : Nat} {M : zz_MD} {pc : Nat} {L : List (Option Value)} {S : List Value} {σ : zz_St} {Q : Option Value → zz_St → Prop} {i : Instr} {n pc' : Nat} {L' : List (Option Value)} {S' : List Value}
    (hd : decode M.2.1 pc = .ok (i, n)) (hlen : zz_len i = n) (hs : zz_step i n pc L S = some (pc', L', S')) (k : Ev sc d mc ms M pc' L' S' σ Q) : Ev sc d mc ms M pc L S σ Q := by
  intro p l e R s m args below meth c D cA b ex H locs cells slots Qt ls hC hR hL hf hlo hce hsl hret
  have hx := hC.1
  have hb := hC.2.1
  have K := fun ls' hL' => k p l e R s m args below meth c D cA b ex H locs cells slots Qt ls' hC hR hL' hf hlo hce hsl hret
  cases i with
  | iload_n q =>
    obtain ⟨x, h1, rfl, rfl, rfl⟩ := zz_ld_i hs
    cases hlen
    exact lv_iload_n hx hb hd rfl (hL.2.2.2 _ _ h1) (K ls hL)
  | iload q =>
    obtain ⟨x, h1, rfl, rfl, rfl⟩ := zz_ld_i hs
    cases hlen
    exact lv_iload hx hb hd (hL.2.2.2 _ _ h1) (K ls hL)
  | aload_n q =>
    obtain ⟨x, h1, rfl, rfl, rfl⟩ := zz_ld_a hs
    cases hlen
    exact lv_aload_n hx hb hd rfl (hL.2.2.2 _ _ h1) (K ls hL)
  | aload q =>
    obtain ⟨x, h1, rfl, rfl, rfl⟩ := zz_ld_a hs
    cases hlen
    exact lv_aload hx hb hd (hL.2.2.2 _ _ h1) (K ls hL)
  | lload q =>
    obtain ⟨x, h1, rfl, rfl, rfl⟩ := zz_ld_l hs
    cases hlen
    exact lv_lload hx hb hd (hL.2.2.2 _ _ h1) (K ls hL)
  | istore_n q =>
    obtain ⟨x, rfl, h1, h2, rfl, rfl⟩ := zz_so_i hs
    cases hlen
    exact lv_istore_n hx hb hd rfl hL.has (by rw [← hL.2.2.1]; exact h1) rfl (fun ls' h => K ls' (hL.st1 (v := .int x) h2 h1 h))
  | istore q =>
    obtain ⟨x, rfl, h1, h2, rfl, rfl⟩ := zz_so_i hs
    cases hlen
    exact lv_istore hx hb hd hL.has (by rw [← hL.2.2.1]; exact h1) rfl (fun ls' h => K ls' (hL.st1 (v := .int x) h2 h1 h))
  | astore_n q =>
    obtain ⟨x, rfl, h1, h2, rfl, rfl⟩ := zz_so_a hs
    cases hlen
    exact lv_astore_n hx hb hd rfl hL.has (by rw [← hL.2.2.1]; exact h1) rfl (fun ls' h => K ls' (hL.st1 (v := .ref x) h2 h1 h))
  | astore q =>
    obtain ⟨x, rfl, h1, h2, rfl, rfl⟩ := zz_so_a hs
    cases hlen
    exact lv_astore hx hb hd hL.has (by rw [← hL.2.2.1]; exact h1) rfl (fun ls' h => K ls' (hL.st1 (v := .ref x) h2 h1 h))
  | lstore q =>
    obtain ⟨x, rfl, h1, h2, rfl, rfl⟩ := zz_so_l hs
    cases hlen
    exact lv_lstore hx hb hd hL.has (by rw [← hL.2.2.1]; exact h1) rfl (fun ls' h => K ls' (hL.st2 (v := .long x) h2 (by omega) h))
  | iconst v => cases hlen; cases hs; exact lv_iconst hx hb hd rfl (K ls hL)
  | bipush v => cases hlen; cases hs; exact lv_bipush hx hb hd rfl (K ls hL)
  | sipush v => cases hlen; cases hs; exact lv_sipush hx hb hd rfl (K ls hL)
  | lconst v => cases hlen; cases hs; exact lv_lconst hx hb hd rfl (K ls hL)
  | iadd => obtain ⟨x, y, r, rfl, rfl, rfl, rfl⟩ := zz_b2_i hs; cases hlen; exact lv_iadd hx hb hd (K ls hL)
  | isub => obtain ⟨x, y, r, rfl, rfl, rfl, rfl⟩ := zz_b2_i hs; cases hlen; exact lv_isub hx hb hd (K ls hL)
  | imul => obtain ⟨x, y, r, rfl, rfl, rfl, rfl⟩ := zz_b2_i hs; cases hlen; exact lv_imul hx hb hd (K ls hL)
  | iand => obtain ⟨x, y, r, rfl, rfl, rfl, rfl⟩ := zz_b2_i hs; cases hlen; exact lv_iand hx hb hd (K ls hL)
  | ior => obtain ⟨x, y, r, rfl, rfl, rfl, rfl⟩ := zz_b2_i hs; cases hlen; exact lv_ior hx hb hd (K ls hL)
  | ishl => obtain ⟨x, y, r, rfl, rfl, rfl, rfl⟩ := zz_b2_i hs; cases hlen; exact lv_ishl hx hb hd (K ls hL)
  | ishr => obtain ⟨x, y, r, rfl, rfl, rfl, rfl⟩ := zz_b2_i hs; cases hlen; exact lv_ishr hx hb hd (K ls hL)
  | iushr => obtain ⟨x, y, r, rfl, rfl, rfl, rfl⟩ := zz_b2_i hs; cases hlen; exact lv_iushr hx hb hd rfl (K ls hL)
  | ineg =>
    simp only [zz_step] at hs
    split at hs
    · cases hs; cases hlen; exact lv_ineg hx hb hd (K ls hL)
    · cases hs
  | i2l =>
    simp only [zz_step] at hs
    split at hs
    · cases hs; cases hlen; exact lv_i2l hx hb hd rfl (K ls hL)
    · cases hs
  | ladd =>
    simp only [zz_step] at hs
    split at hs
    · cases hs; cases hlen; exact lv_ladd hx hb hd (K ls hL)
    · cases hs
  | lcmp =>
    simp only [zz_step] at hs
    split at hs
    · cases hs; cases hlen; exact W.lcmp hx hb hd (K ls hL)
    · cases hs
  | iinc q v =>
    simp only [zz_step] at hs
    split at hs
    · next x h1 h2 =>
      cases hs; cases hlen
      rw [Bool.and_eq_true] at h2
      have h3 := zz_lk_spec h1
      obtain ⟨kk, hkk⟩ := List.getElem?_of_mem (zz_Ll_mem (b := b) (ex := ex) h3)
      exact lv_iinc hx hb hd hL.has hkk rfl (by rw [← hL.2.2.1]; exact Nat.le_of_ble_eq_true h2.1) rfl (fun ls' h => K ls' (hL.st1 (v := .int (x + Int32.ofInt v)) h2.2 (Nat.le_of_ble_eq_true h2.1) h))
    · cases hs
  | dup =>
    simp only [zz_step] at hs
    split at hs
    · cases hs; cases hlen; exact lv_dup hx hb hd rfl (K ls hL)
    · cases hs; cases hlen; exact lv_dup hx hb hd rfl (K ls hL)
    · cases hs
  | dup2 =>
    simp only [zz_step] at hs
    split at hs
    · cases hs; cases hlen; exact lv_dup2_11 hx hb hd rfl rfl (K ls hL)
    · cases hs; cases hlen; exact lv_dup2_11 hx hb hd rfl rfl (K ls hL)
    · cases hs
  | pop =>
    simp only [zz_step] at hs
    split at hs
    · cases hs; cases hlen; exact lv_pop hx hb hd rfl (K ls hL)
    · cases hs
  | _ => cases hs
