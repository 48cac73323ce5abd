/-! ===== every call answers alike: images ===== -/
section ZS3
variable {sc : Nat × (Nat → Int32)} {X : zX}
theorem zz_bx1 : vp_nar .boolean (nI 1) = nI 1 := by decide
/-- the model's image n is taken -/
theorem zz_im {I : Nat → Nat → Int32} {n m : Nat} {h : Nat → Int32} {A : zA} {v : Int32} (hW : WF A) (hn : n < 2) (hm : m < 2) (hne : m ≠ n) (H : IM I n h (fun _ _ => True)) (hV : MV (zVi I m) A) : MV (zVi (zz_up (zz_cs I 379 h) 380 n v) m) A := by
  refine hV.cong hW (fun c hc j hj => ?_)
  have h9 := off_top c hc
  show (zz_up (zz_cs I 379 h) 380 n v) 379 _ = I 379 _
  rw [zz_up_ne (by decide), zz_cs_eq]
  exact H.2 _ (by omega)
theorem zz_im0 {I : Nat → Nat → Int32} {n : Nat} {h : Nat → Int32} {A : zA} {v : Int32} (hW : WF A) (H : IM I n h (fun _ _ => True)) (hV : MV (zVm I) A) : MV (zVi (zz_up (zz_cs I 379 h) 380 n v) n) A := by
  refine hV.cong hW (fun c hc j hj => ?_)
  show (zz_up (zz_cs I 379 h) 380 n v) 379 _ = zVm I c j
  rw [zz_up_ne (by decide), zz_cs_eq]
  exact H.1 c hc j hj trivial
theorem zz_imv {I : Nat → Nat → Int32} {n : Nat} {h : Nat → Int32} {v : Int32} : zVm (zz_up (zz_cs I 379 h) 380 n v) = zVm I := zVm_fr (by rw [zz_up_ne (by decide), zz_cs_ne (by decide)]) (by rw [zz_up_ne (by decide), zz_cs_ne (by decide)]) (fun c h1 h2 => by rw [zz_up_ne (by omega), zz_cs_ne (by omega)])
theorem s_image (hX : IW X) (x : Int32) : STi sc mX6_image mX7_image [.int x] X := by
  by_cases hx : zz_ix x 2
  · rcases zz_ix2 hx with rfl | rfl
    · refine ⟨nI 1, (X.1, X.2.1, some X.1, X.2.2.2), ⟨hX.1, hX.2.1, fun B hB => by cases hB; exact hX.1, hX.2.2.2⟩, fun I J hI => (c_X6_image_0 (d := 5) I J X.1 hI.1 hX.1).imp ?_, fun I J hI => (c_X7_image_k (d := 9) I J 0 (by decide)).imp ?_⟩
      · rintro _ _ ⟨rfl, I', hC, hk, hf, rfl⟩
        refine ⟨rfl, I', J, ⟨hI.1.fr hX.1 (fun c h1 h2 => hk c (by omega) (by omega)), hI.2.1.fr (hk 1 (by decide) (by decide)) (hk 2 (by decide) (by decide)), ⟨hf.1, fun B hB => by cases hB; exact hC⟩, ⟨by rw [hf.2 1 (by decide)]; exact hI.2.2.2.1, fun B hB => (hI.2.2.2.2 B hB).fr (hX.2.2.2 B hB) (fun c h1 h2 => hk c (by omega) (by omega))⟩⟩, fun c hc => hk c (by omega) (by omega), rfl⟩
      · rintro _ _ ⟨rfl, h, H, rfl⟩
        refine ⟨rfl, _, J, ⟨?_, ⟨?_, fun j hj => ?_⟩, ⟨?_, fun B hB => ?_⟩, ⟨?_, fun B hB => ?_⟩⟩, fun c hc => by rw [zz_up_ne (by omega), zz_cs_ne (by omega)], rfl⟩
        · rw [zz_imv]; exact hI.1
        · rw [zz_up_ne (by decide), zz_cs_ne (by decide)]; exact hI.2.1.1
        · rw [zz_up_ne (by decide), zz_cs_ne (by decide)]; exact hI.2.1.2 j hj
        · rw [zz_up_eq, zz_ups, zz_bx1]; rfl
        · cases hB; exact zz_im0 hX.1 H hI.1
        · rw [zz_up_eq, zz_upn (by decide), zz_cs_ne (by decide)]; exact hI.2.2.2.1
        · exact zz_im (hX.2.2.2 B hB) (by decide) (by decide) (by decide) H (hI.2.2.2.2 B hB)
    · refine ⟨nI 1, (X.1, X.2.1, X.2.2.1, some X.1), ⟨hX.1, hX.2.1, hX.2.2.1, fun B hB => by cases hB; exact hX.1⟩, fun I J hI => (c_X6_image_1 (d := 5) I J X.1 hI.1 hX.1).imp ?_, fun I J hI => (c_X7_image_k (d := 9) I J 1 (by decide)).imp ?_⟩
      · rintro _ _ ⟨rfl, I', hC, hk, hf, rfl⟩
        refine ⟨rfl, I', J, ⟨hI.1.fr hX.1 (fun c h1 h2 => hk c (by omega) (by omega)), hI.2.1.fr (hk 1 (by decide) (by decide)) (hk 2 (by decide) (by decide)), ⟨by rw [hf.2 0 (by decide)]; exact hI.2.2.1.1, fun B hB => (hI.2.2.1.2 B hB).fr (hX.2.2.1 B hB) (fun c h1 h2 => hk c (by omega) (by omega))⟩, ⟨hf.1, fun B hB => by cases hB; exact hC⟩⟩, fun c hc => hk c (by omega) (by omega), rfl⟩
      · rintro _ _ ⟨rfl, h, H, rfl⟩
        refine ⟨rfl, _, J, ⟨?_, ⟨?_, fun j hj => ?_⟩, ⟨?_, fun B hB => ?_⟩, ⟨?_, fun B hB => ?_⟩⟩, fun c hc => by rw [zz_up_ne (by omega), zz_cs_ne (by omega)], rfl⟩
        · rw [zz_imv]; exact hI.1
        · rw [zz_up_ne (by decide), zz_cs_ne (by decide)]; exact hI.2.1.1
        · rw [zz_up_ne (by decide), zz_cs_ne (by decide)]; exact hI.2.1.2 j hj
        · rw [zz_up_eq, zz_upn (by decide), zz_cs_ne (by decide)]; exact hI.2.2.1.1
        · exact zz_im (hX.2.2.1 B hB) (by decide) (by decide) (by decide) H (hI.2.2.1.2 B hB)
        · rw [zz_up_eq, zz_ups, zz_bx1]; rfl
        · cases hB; exact zz_im0 hX.1 H hI.1
  · exact ⟨-2, X, hX, CL.q fun I J hI => c_X6_image_o (d := 5) I J x hx, ML.q fun I J hI => c_X7_image_o (d := 9) I J x hx⟩
theorem s_restore (hX : IW X) (x : Int32) : STi sc mX6_restore mX7_restore [.int x] X := by
  obtain ⟨XA, XP, o0, o1⟩ := X
  by_cases hx : zz_ix x 2
  · rcases zz_ix2 hx with rfl | rfl
    · cases o0 with
      | none => exact ⟨-3, _, hX, CL.q fun I J hI => c_X6_restore_s0 (d := 5) I J hI.2.2.1.1, ML.q fun I J hI => c_X7_restore_s (d := 9) I J 0 (by decide) hI.2.2.1.1⟩
      | some B =>
        have wB := hX.2.2.1 B rfl
        refine ⟨nI 1, (B, XP, some B, o1), ⟨wB, hX.2.1, hX.2.2.1, hX.2.2.2⟩, fun I J hI => (c_X6_restore_k0 (d := 5) I J B (hI.2.2.1.2 B rfl) wB hI.2.2.1.1).imp ?_, fun I J hI => (c_X7_restore_k (d := 9) I J 0 (by decide) hI.2.2.1.1).imp ?_⟩
        · rintro _ _ ⟨rfl, I', hC, hk, rfl⟩
          exact ⟨rfl, I', J, hI.gen hX (fun c h1 h2 => hk c (by omega)) (hI.2.1.fr (hk 1 (by decide)) (hk 2 (by decide))) hC, fun c hc => hk c (by omega), rfl⟩
        · rintro _ _ ⟨rfl, I', H, rfl⟩
          exact ⟨rfl, I', J, hI.gen ((hI.2.2.1.2 B rfl).cong wB (fun c hc j hj => H.2.2 c hc j hj trivial)) (H.1 379 (by decide)) (H.1 380 (by decide)) ⟨by rw [H.2.1 0 (by decide) (by decide)]; exact hI.2.1.1, fun j hj => by rw [H.1 360 (by decide)]; exact hI.2.1.2 j hj⟩, fun c hc => H.1 c (by omega), rfl⟩
    · cases o1 with
      | none => exact ⟨-3, _, hX, CL.q fun I J hI => c_X6_restore_s1 (d := 5) I J hI.2.2.2.1, ML.q fun I J hI => c_X7_restore_s (d := 9) I J 1 (by decide) hI.2.2.2.1⟩
      | some B =>
        have wB := hX.2.2.2 B rfl
        refine ⟨nI 1, (B, XP, o0, some B), ⟨wB, hX.2.1, hX.2.2.1, hX.2.2.2⟩, fun I J hI => (c_X6_restore_k1 (d := 5) I J B (hI.2.2.2.2 B rfl) wB hI.2.2.2.1).imp ?_, fun I J hI => (c_X7_restore_k (d := 9) I J 1 (by decide) hI.2.2.2.1).imp ?_⟩
        · rintro _ _ ⟨rfl, I', hC, hk, rfl⟩
          exact ⟨rfl, I', J, hI.gen hX (fun c h1 h2 => hk c (by omega)) (hI.2.1.fr (hk 1 (by decide)) (hk 2 (by decide))) hC, fun c hc => hk c (by omega), rfl⟩
        · rintro _ _ ⟨rfl, I', H, rfl⟩
          exact ⟨rfl, I', J, hI.gen ((hI.2.2.2.2 B rfl).cong wB (fun c hc j hj => H.2.2 c hc j hj trivial)) (H.1 379 (by decide)) (H.1 380 (by decide)) ⟨by rw [H.2.1 0 (by decide) (by decide)]; exact hI.2.1.1, fun j hj => by rw [H.1 360 (by decide)]; exact hI.2.1.2 j hj⟩, fun c hc => H.1 c (by omega), rfl⟩
  · exact ⟨-2, _, hX, CL.q fun I J hI => c_X6_restore_o (d := 5) I J x hx, ML.q fun I J hI => c_X7_restore_o (d := 9) I J x hx⟩
end ZS3
