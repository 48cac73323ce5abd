/-! ===== the cells of both objects, by program ===== -/
def zz_SH : List zz_SK := [.inl (5, [some (some 1), some (some 3), some (some 104), some (some 307), some (some 308), some (some 310), some (some 328)]),
  .inl (4, [some (some 2), none]),
  .inr (0, 30, []),
  .inl (2, [some (some 4), some (some 5), some (some 6), some (some 7), some (some 8), some (some 19), some (some 30), some (some 31), some (some 32), some (some 34), none, none]),
  .inr (3, 12, [some 36, some 40, some 44, some 48, some 52, some 56, some 60, some 64, some 68, some 72, some 76, some 80]),
  .inr (3, 12, [some 38, some 42, some 46, some 50, some 54, some 58, some 62, some 66, some 70, some 74, some 78, some 82]),
  .inr (0, 12, []),
  .inr (3, 10, [some 84, some 86, some 88, some 90, some 92, some 94, some 96, some 98, some 100, some 102]),
  .inr (5, 10, [some 9, some 10, some 11, some 12, some 13, some 14, some 15, some 16, some 17, some 18]),
  .inr (0, 12, []),
  .inr (0, 12, []),
  .inr (0, 12, []),
  .inr (0, 12, []),
  .inr (0, 12, []),
  .inr (0, 12, []),
  .inr (0, 12, []),
  .inr (0, 12, []),
  .inr (0, 12, []),
  .inr (0, 12, []),
  .inr (5, 10, [some 20, some 21, some 22, some 23, some 24, some 25, some 26, some 27, some 28, some 29]),
  .inr (0, 10, []),
  .inr (0, 10, []),
  .inr (0, 10, []),
  .inr (0, 10, []),
  .inr (0, 10, []),
  .inr (0, 10, []),
  .inr (0, 10, []),
  .inr (0, 10, []),
  .inr (0, 10, []),
  .inr (0, 10, []),
  .inr (0, 5, []),
  .inr (0, 16, []),
  .inl (4, [some (some 33), none]),
  .inr (0, 12, []),
  .inl (4, [some (some 35), none]),
  .inr (0, 12, []),
  .inl (4, [some (some 37), none]),
  .inr (0, 12, []),
  .inl (4, [some (some 39), none]),
  .inr (0, 12, []),
  .inl (4, [some (some 41), none]),
  .inr (0, 12, []),
  .inl (4, [some (some 43), none]),
  .inr (0, 12, []),
  .inl (4, [some (some 45), none]),
  .inr (0, 12, []),
  .inl (4, [some (some 47), none]),
  .inr (0, 12, []),
  .inl (4, [some (some 49), none]),
  .inr (0, 12, []),
  .inl (4, [some (some 51), none]),
  .inr (0, 12, []),
  .inl (4, [some (some 53), none]),
  .inr (0, 12, []),
  .inl (4, [some (some 55), none]),
  .inr (0, 12, []),
  .inl (4, [some (some 57), none]),
  .inr (0, 12, []),
  .inl (4, [some (some 59), none]),
  .inr (0, 12, []),
  .inl (4, [some (some 61), none]),
  .inr (0, 12, []),
  .inl (4, [some (some 63), none]),
  .inr (0, 12, []),
  .inl (4, [some (some 65), none]),
  .inr (0, 12, []),
  .inl (4, [some (some 67), none]),
  .inr (0, 12, []),
  .inl (4, [some (some 69), none]),
  .inr (0, 12, []),
  .inl (4, [some (some 71), none]),
  .inr (0, 12, []),
  .inl (4, [some (some 73), none]),
  .inr (0, 12, []),
  .inl (4, [some (some 75), none]),
  .inr (0, 12, []),
  .inl (4, [some (some 77), none]),
  .inr (0, 12, []),
  .inl (4, [some (some 79), none]),
  .inr (0, 12, []),
  .inl (4, [some (some 81), none]),
  .inr (0, 12, []),
  .inl (4, [some (some 83), none]),
  .inr (0, 12, []),
  .inl (4, [some (some 85), none]),
  .inr (0, 12, []),
  .inl (4, [some (some 87), none]),
  .inr (0, 12, []),
  .inl (4, [some (some 89), none]),
  .inr (0, 12, []),
  .inl (4, [some (some 91), none]),
  .inr (0, 12, []),
  .inl (4, [some (some 93), none]),
  .inr (0, 12, []),
  .inl (4, [some (some 95), none]),
  .inr (0, 12, []),
  .inl (4, [some (some 97), none]),
  .inr (0, 12, []),
  .inl (4, [some (some 99), none]),
  .inr (0, 12, []),
  .inl (4, [some (some 101), none]),
  .inr (0, 12, []),
  .inl (4, [some (some 103), none]),
  .inr (0, 12, []),
  .inr (4, 2, [some 105, some 206]),
  .inl (2, [some (some 106), some (some 107), some (some 108), some (some 109), some (some 110), some (some 121), some (some 132), some (some 133), some (some 134), some (some 136), none, none]),
  .inr (3, 12, [some 138, some 142, some 146, some 150, some 154, some 158, some 162, some 166, some 170, some 174, some 178, some 182]),
  .inr (3, 12, [some 140, some 144, some 148, some 152, some 156, some 160, some 164, some 168, some 172, some 176, some 180, some 184]),
  .inr (0, 12, []),
  .inr (3, 10, [some 186, some 188, some 190, some 192, some 194, some 196, some 198, some 200, some 202, some 204]),
  .inr (5, 10, [some 111, some 112, some 113, some 114, some 115, some 116, some 117, some 118, some 119, some 120]),
  .inr (0, 12, []),
  .inr (0, 12, []),
  .inr (0, 12, []),
  .inr (0, 12, []),
  .inr (0, 12, []),
  .inr (0, 12, []),
  .inr (0, 12, []),
  .inr (0, 12, []),
  .inr (0, 12, []),
  .inr (0, 12, []),
  .inr (5, 10, [some 122, some 123, some 124, some 125, some 126, some 127, some 128, some 129, some 130, some 131]),
  .inr (0, 10, []),
  .inr (0, 10, []),
  .inr (0, 10, []),
  .inr (0, 10, []),
  .inr (0, 10, []),
  .inr (0, 10, []),
  .inr (0, 10, []),
  .inr (0, 10, []),
  .inr (0, 10, []),
  .inr (0, 10, []),
  .inr (0, 5, []),
  .inr (0, 16, []),
  .inl (4, [some (some 135), none]),
  .inr (0, 12, []),
  .inl (4, [some (some 137), none]),
  .inr (0, 12, []),
  .inl (4, [some (some 139), none]),
  .inr (0, 12, []),
  .inl (4, [some (some 141), none]),
  .inr (0, 12, []),
  .inl (4, [some (some 143), none]),
  .inr (0, 12, []),
  .inl (4, [some (some 145), none]),
  .inr (0, 12, []),
  .inl (4, [some (some 147), none]),
  .inr (0, 12, []),
  .inl (4, [some (some 149), none]),
  .inr (0, 12, []),
  .inl (4, [some (some 151), none]),
  .inr (0, 12, []),
  .inl (4, [some (some 153), none]),
  .inr (0, 12, []),
  .inl (4, [some (some 155), none]),
  .inr (0, 12, []),
  .inl (4, [some (some 157), none]),
  .inr (0, 12, []),
  .inl (4, [some (some 159), none]),
  .inr (0, 12, []),
  .inl (4, [some (some 161), none]),
  .inr (0, 12, []),
  .inl (4, [some (some 163), none]),
  .inr (0, 12, []),
  .inl (4, [some (some 165), none]),
  .inr (0, 12, []),
  .inl (4, [some (some 167), none]),
  .inr (0, 12, []),
  .inl (4, [some (some 169), none]),
  .inr (0, 12, []),
  .inl (4, [some (some 171), none]),
  .inr (0, 12, []),
  .inl (4, [some (some 173), none]),
  .inr (0, 12, []),
  .inl (4, [some (some 175), none]),
  .inr (0, 12, []),
  .inl (4, [some (some 177), none]),
  .inr (0, 12, []),
  .inl (4, [some (some 179), none]),
  .inr (0, 12, []),
  .inl (4, [some (some 181), none]),
  .inr (0, 12, []),
  .inl (4, [some (some 183), none]),
  .inr (0, 12, []),
  .inl (4, [some (some 185), none]),
  .inr (0, 12, []),
  .inl (4, [some (some 187), none]),
  .inr (0, 12, []),
  .inl (4, [some (some 189), none]),
  .inr (0, 12, []),
  .inl (4, [some (some 191), none]),
  .inr (0, 12, []),
  .inl (4, [some (some 193), none]),
  .inr (0, 12, []),
  .inl (4, [some (some 195), none]),
  .inr (0, 12, []),
  .inl (4, [some (some 197), none]),
  .inr (0, 12, []),
  .inl (4, [some (some 199), none]),
  .inr (0, 12, []),
  .inl (4, [some (some 201), none]),
  .inr (0, 12, []),
  .inl (4, [some (some 203), none]),
  .inr (0, 12, []),
  .inl (4, [some (some 205), none]),
  .inr (0, 12, []),
  .inl (2, [some (some 207), some (some 208), some (some 209), some (some 210), some (some 211), some (some 222), some (some 233), some (some 234), some (some 235), some (some 237), none, none]),
  .inr (3, 12, [some 239, some 243, some 247, some 251, some 255, some 259, some 263, some 267, some 271, some 275, some 279, some 283]),
  .inr (3, 12, [some 241, some 245, some 249, some 253, some 257, some 261, some 265, some 269, some 273, some 277, some 281, some 285]),
  .inr (0, 12, []),
  .inr (3, 10, [some 287, some 289, some 291, some 293, some 295, some 297, some 299, some 301, some 303, some 305]),
  .inr (5, 10, [some 212, some 213, some 214, some 215, some 216, some 217, some 218, some 219, some 220, some 221]),
  .inr (0, 12, []),
  .inr (0, 12, []),
  .inr (0, 12, []),
  .inr (0, 12, []),
  .inr (0, 12, []),
  .inr (0, 12, []),
  .inr (0, 12, []),
  .inr (0, 12, []),
  .inr (0, 12, []),
  .inr (0, 12, []),
  .inr (5, 10, [some 223, some 224, some 225, some 226, some 227, some 228, some 229, some 230, some 231, some 232]),
  .inr (0, 10, []),
  .inr (0, 10, []),
  .inr (0, 10, []),
  .inr (0, 10, []),
  .inr (0, 10, []),
  .inr (0, 10, []),
  .inr (0, 10, []),
  .inr (0, 10, []),
  .inr (0, 10, []),
  .inr (0, 10, []),
  .inr (0, 5, []),
  .inr (0, 16, []),
  .inl (4, [some (some 236), none]),
  .inr (0, 12, []),
  .inl (4, [some (some 238), none]),
  .inr (0, 12, []),
  .inl (4, [some (some 240), none]),
  .inr (0, 12, []),
  .inl (4, [some (some 242), none]),
  .inr (0, 12, []),
  .inl (4, [some (some 244), none]),
  .inr (0, 12, []),
  .inl (4, [some (some 246), none]),
  .inr (0, 12, []),
  .inl (4, [some (some 248), none]),
  .inr (0, 12, []),
  .inl (4, [some (some 250), none]),
  .inr (0, 12, []),
  .inl (4, [some (some 252), none]),
  .inr (0, 12, []),
  .inl (4, [some (some 254), none]),
  .inr (0, 12, []),
  .inl (4, [some (some 256), none]),
  .inr (0, 12, []),
  .inl (4, [some (some 258), none]),
  .inr (0, 12, []),
  .inl (4, [some (some 260), none]),
  .inr (0, 12, []),
  .inl (4, [some (some 262), none]),
  .inr (0, 12, []),
  .inl (4, [some (some 264), none]),
  .inr (0, 12, []),
  .inl (4, [some (some 266), none]),
  .inr (0, 12, []),
  .inl (4, [some (some 268), none]),
  .inr (0, 12, []),
  .inl (4, [some (some 270), none]),
  .inr (0, 12, []),
  .inl (4, [some (some 272), none]),
  .inr (0, 12, []),
  .inl (4, [some (some 274), none]),
  .inr (0, 12, []),
  .inl (4, [some (some 276), none]),
  .inr (0, 12, []),
  .inl (4, [some (some 278), none]),
  .inr (0, 12, []),
  .inl (4, [some (some 280), none]),
  .inr (0, 12, []),
  .inl (4, [some (some 282), none]),
  .inr (0, 12, []),
  .inl (4, [some (some 284), none]),
  .inr (0, 12, []),
  .inl (4, [some (some 286), none]),
  .inr (0, 12, []),
  .inl (4, [some (some 288), none]),
  .inr (0, 12, []),
  .inl (4, [some (some 290), none]),
  .inr (0, 12, []),
  .inl (4, [some (some 292), none]),
  .inr (0, 12, []),
  .inl (4, [some (some 294), none]),
  .inr (0, 12, []),
  .inl (4, [some (some 296), none]),
  .inr (0, 12, []),
  .inl (4, [some (some 298), none]),
  .inr (0, 12, []),
  .inl (4, [some (some 300), none]),
  .inr (0, 12, []),
  .inl (4, [some (some 302), none]),
  .inr (0, 12, []),
  .inl (4, [some (some 304), none]),
  .inr (0, 12, []),
  .inl (4, [some (some 306), none]),
  .inr (0, 12, []),
  .inr (2, 2, []),
  .inl (1, [some (some 309)]),
  .inr (0, 13, []),
  .inl (3, [some (some 311), some (some 312), some (some 323), some (some 324), some (some 325), some (some 326)]),
  .inr (0, 10, []),
  .inr (5, 10, [some 313, some 314, some 315, some 316, some 317, some 318, some 319, some 320, some 321, some 322]),
  .inr (0, 5, []),
  .inr (0, 5, []),
  .inr (0, 5, []),
  .inr (0, 5, []),
  .inr (0, 5, []),
  .inr (0, 5, []),
  .inr (0, 5, []),
  .inr (0, 5, []),
  .inr (0, 5, []),
  .inr (0, 5, []),
  .inr (0, 1024, []),
  .inr (0, 1024, []),
  .inr (0, 10, []),
  .inl (4, [some (some 327), none]),
  .inr (0, 10, []),
  .inl (0, [some (some 329), some (some 343), some (some 357)]),
  .inr (5, 13, [some 330, some 331, some 332, some 333, some 334, some 335, some 336, some 337, some 338, some 339, some 340, some 341, some 342]),
  .inr (0, 13, []),
  .inr (0, 13, []),
  .inr (0, 13, []),
  .inr (0, 13, []),
  .inr (0, 13, []),
  .inr (0, 13, []),
  .inr (0, 13, []),
  .inr (0, 13, []),
  .inr (0, 13, []),
  .inr (0, 13, []),
  .inr (0, 13, []),
  .inr (0, 13, []),
  .inr (0, 13, []),
  .inr (6, 13, [some 344, some 345, some 346, some 347, some 348, some 349, some 350, some 351, some 352, some 353, some 354, some 355, some 356]),
  .inr (1, 13, []),
  .inr (1, 13, []),
  .inr (1, 13, []),
  .inr (1, 13, []),
  .inr (1, 13, []),
  .inr (1, 13, []),
  .inr (1, 13, []),
  .inr (1, 13, []),
  .inr (1, 13, []),
  .inr (1, 13, []),
  .inr (1, 13, []),
  .inr (1, 13, []),
  .inr (1, 13, []),
  .inl (4, [some (some 358), none]),
  .inr (0, 24, []),
  .inl (6, [none, some (some 360), none, some (some 361), some (some 362), some (some 363), some (some 364), some (some 365), none, some (some 366), some (some 367), some (some 368), some (some 369), some (some 370), some (some 371), none, some (some 372), none, some (some 373), some (some 374), some (some 375), some (some 376), none, none, some (some 377), some (some 378), some (some 379), some (some 380)]),
  .inr (0, 30, []),
  .inr (0, 12, []),
  .inr (0, 12, []),
  .inr (0, 12, []),
  .inr (0, 144, []),
  .inr (0, 144, []),
  .inr (0, 10, []),
  .inr (0, 120, []),
  .inr (0, 5, []),
  .inr (0, 16, []),
  .inr (0, 2, []),
  .inr (0, 24, []),
  .inr (0, 13, []),
  .inr (0, 10, []),
  .inr (0, 100, []),
  .inr (0, 1024, []),
  .inr (0, 10, []),
  .inr (0, 169, []),
  .inr (1, 169, []),
  .inr (0, 1040, []),
  .inr (2, 2, [])]
theorem zz_SH_len : zz_SH.length = 381 := by decide +kernel
def mL_law : zz_MD := (x, code, 4, some .boolean, 8)
/-! ===== the calls, by program ===== -/
theorem zz_in (k : Nat) {w : Cond} (h : lw_tbl[k]? = some w) (hg : goodWord w = true) : w ∈ zz_WG := List.mem_filter.mpr ⟨List.mem_of_getElem? h, hg⟩
set_option maxRecDepth 100000 in
theorem lk_RL_13 {M : zz_MD} (h : M.1.cls = RL := by rfl) : zz_cV M mX6_say 13 1 := by
  unfold zz_cV zz_cB
  rw [h]
  exact ⟨⟨zz_in 242 rfl rfl, zz_in 39 rfl rfl, zz_in 239 rfl rfl, ⟨by decide, by decide, by decide +kernel⟩, by decide⟩, zz_in 240 rfl rfl, zz_in 241 rfl rfl⟩
set_option maxRecDepth 100000 in
theorem lk_RL_17 {M : zz_MD} (h : M.1.cls = RL := by rfl) : zz_cV M mX7_say 17 1 := by
  unfold zz_cV zz_cB
  rw [h]
  exact ⟨⟨zz_in 696 rfl rfl, zz_in 45 rfl rfl, zz_in 693 rfl rfl, ⟨by decide, by decide, by decide +kernel⟩, by decide⟩, zz_in 694 rfl rfl, zz_in 695 rfl rfl⟩
set_option maxRecDepth 100000 in
theorem lk_RL_18 {M : zz_MD} (h : M.1.cls = RL := by rfl) : zz_cV M mX6_wipe 18 0 := by
  unfold zz_cV zz_cB
  rw [h]
  exact ⟨⟨zz_in 250 rfl rfl, zz_in 39 rfl rfl, zz_in 247 rfl rfl, ⟨by decide, by decide, by decide +kernel⟩, by decide⟩, zz_in 248 rfl rfl, zz_in 249 rfl rfl⟩
set_option maxRecDepth 100000 in
theorem lk_RL_22 {M : zz_MD} (h : M.1.cls = RL := by rfl) : zz_cV M mX7_wipe 22 0 := by
  unfold zz_cV zz_cB
  rw [h]
  exact ⟨⟨zz_in 703 rfl rfl, zz_in 45 rfl rfl, zz_in 700 rfl rfl, ⟨by decide, by decide, by decide +kernel⟩, by decide⟩, zz_in 701 rfl rfl, zz_in 702 rfl rfl⟩
set_option maxRecDepth 100000 in
theorem lk_RL_23 {M : zz_MD} (h : M.1.cls = RL := by rfl) : zz_cV M mX6_fault 23 1 := by
  unfold zz_cV zz_cB
  rw [h]
  exact ⟨⟨zz_in 254 rfl rfl, zz_in 39 rfl rfl, zz_in 251 rfl rfl, ⟨by decide, by decide, by decide +kernel⟩, by decide⟩, zz_in 252 rfl rfl, zz_in 253 rfl rfl⟩
set_option maxRecDepth 100000 in
theorem lk_RL_26 {M : zz_MD} (h : M.1.cls = RL := by rfl) : zz_cV M mX7_fault 26 1 := by
  unfold zz_cV zz_cB
  rw [h]
  exact ⟨⟨zz_in 707 rfl rfl, zz_in 45 rfl rfl, zz_in 704 rfl rfl, ⟨by decide, by decide, by decide +kernel⟩, by decide⟩, zz_in 705 rfl rfl, zz_in 706 rfl rfl⟩
set_option maxRecDepth 100000 in
theorem lk_RL_27 {M : zz_MD} (h : M.1.cls = RL := by rfl) : zz_cV M mX6_keep 27 1 := by
  unfold zz_cV zz_cB
  rw [h]
  exact ⟨⟨zz_in 280 rfl rfl, zz_in 39 rfl rfl, zz_in 277 rfl rfl, ⟨by decide, by decide, by decide +kernel⟩, by decide⟩, zz_in 278 rfl rfl, zz_in 279 rfl rfl⟩
set_option maxRecDepth 100000 in
theorem lk_RL_30 {M : zz_MD} (h : M.1.cls = RL := by rfl) : zz_cV M mX7_keep 30 1 := by
  unfold zz_cV zz_cB
  rw [h]
  exact ⟨⟨zz_in 718 rfl rfl, zz_in 45 rfl rfl, zz_in 715 rfl rfl, ⟨by decide, by decide, by decide +kernel⟩, by decide⟩, zz_in 716 rfl rfl, zz_in 717 rfl rfl⟩
set_option maxRecDepth 100000 in
theorem lk_RL_31 {M : zz_MD} (h : M.1.cls = RL := by rfl) : zz_cV M mX6_write 31 0 := by
  unfold zz_cV zz_cB
  rw [h]
  exact ⟨⟨zz_in 334 rfl rfl, zz_in 39 rfl rfl, zz_in 331 rfl rfl, ⟨by decide, by decide, by decide +kernel⟩, by decide⟩, zz_in 332 rfl rfl, zz_in 333 rfl rfl⟩
set_option maxRecDepth 100000 in
theorem lk_RL_34 {M : zz_MD} (h : M.1.cls = RL := by rfl) : zz_cV M mX7_write 34 0 := by
  unfold zz_cV zz_cB
  rw [h]
  exact ⟨⟨zz_in 726 rfl rfl, zz_in 45 rfl rfl, zz_in 723 rfl rfl, ⟨by decide, by decide, by decide +kernel⟩, by decide⟩, zz_in 724 rfl rfl, zz_in 725 rfl rfl⟩
set_option maxRecDepth 100000 in
theorem lk_RL_35 {M : zz_MD} (h : M.1.cls = RL := by rfl) : zz_cV M mX6_pair 35 2 := by
  unfold zz_cV zz_cB
  rw [h]
  exact ⟨⟨zz_in 342 rfl rfl, zz_in 39 rfl rfl, zz_in 339 rfl rfl, ⟨by decide, by decide, by decide +kernel⟩, by decide⟩, zz_in 340 rfl rfl, zz_in 341 rfl rfl⟩
set_option maxRecDepth 100000 in
theorem lk_RL_39 {M : zz_MD} (h : M.1.cls = RL := by rfl) : zz_cV M mX7_pair 39 2 := by
  unfold zz_cV zz_cB
  rw [h]
  exact ⟨⟨zz_in 730 rfl rfl, zz_in 45 rfl rfl, zz_in 727 rfl rfl, ⟨by decide, by decide, by decide +kernel⟩, by decide⟩, zz_in 728 rfl rfl, zz_in 729 rfl rfl⟩
set_option maxRecDepth 100000 in
theorem lk_RL_40 {M : zz_MD} (h : M.1.cls = RL := by rfl) : zz_cV M mX6_far 40 2 := by
  unfold zz_cV zz_cB
  rw [h]
  exact ⟨⟨zz_in 346 rfl rfl, zz_in 39 rfl rfl, zz_in 343 rfl rfl, ⟨by decide, by decide, by decide +kernel⟩, by decide⟩, zz_in 344 rfl rfl, zz_in 345 rfl rfl⟩
set_option maxRecDepth 100000 in
theorem lk_RL_43 {M : zz_MD} (h : M.1.cls = RL := by rfl) : zz_cV M mX7_far 43 2 := by
  unfold zz_cV zz_cB
  rw [h]
  exact ⟨⟨zz_in 734 rfl rfl, zz_in 45 rfl rfl, zz_in 731 rfl rfl, ⟨by decide, by decide, by decide +kernel⟩, by decide⟩, zz_in 732 rfl rfl, zz_in 733 rfl rfl⟩
set_option maxRecDepth 100000 in
theorem lk_RL_44 {M : zz_MD} (h : M.1.cls = RL := by rfl) : zz_cV M mX6_match 44 2 := by
  unfold zz_cV zz_cB
  rw [h]
  exact ⟨⟨zz_in 352 rfl rfl, zz_in 39 rfl rfl, zz_in 349 rfl rfl, ⟨by decide, by decide, by decide +kernel⟩, by decide⟩, zz_in 350 rfl rfl, zz_in 351 rfl rfl⟩
set_option maxRecDepth 100000 in
theorem lk_RL_47 {M : zz_MD} (h : M.1.cls = RL := by rfl) : zz_cV M mX7_match 47 2 := by
  unfold zz_cV zz_cB
  rw [h]
  exact ⟨⟨zz_in 749 rfl rfl, zz_in 45 rfl rfl, zz_in 746 rfl rfl, ⟨by decide, by decide, by decide +kernel⟩, by decide⟩, zz_in 747 rfl rfl, zz_in 748 rfl rfl⟩
set_option maxRecDepth 100000 in
theorem lk_RL_48 {M : zz_MD} (h : M.1.cls = RL := by rfl) : zz_cV M mX6_found 48 2 := by
  unfold zz_cV zz_cB
  rw [h]
  exact ⟨⟨zz_in 356 rfl rfl, zz_in 39 rfl rfl, zz_in 353 rfl rfl, ⟨by decide, by decide, by decide +kernel⟩, by decide⟩, zz_in 354 rfl rfl, zz_in 355 rfl rfl⟩
set_option maxRecDepth 100000 in
theorem lk_RL_51 {M : zz_MD} (h : M.1.cls = RL := by rfl) : zz_cV M mX7_found 51 2 := by
  unfold zz_cV zz_cB
  rw [h]
  exact ⟨⟨zz_in 764 rfl rfl, zz_in 45 rfl rfl, zz_in 761 rfl rfl, ⟨by decide, by decide, by decide +kernel⟩, by decide⟩, zz_in 762 rfl rfl, zz_in 763 rfl rfl⟩
set_option maxRecDepth 100000 in
theorem lk_RL_52 {M : zz_MD} (h : M.1.cls = RL := by rfl) : zz_cV M mX6_filled 52 2 := by
  unfold zz_cV zz_cB
  rw [h]
  exact ⟨⟨zz_in 364 rfl rfl, zz_in 39 rfl rfl, zz_in 361 rfl rfl, ⟨by decide, by decide, by decide +kernel⟩, by decide⟩, zz_in 362 rfl rfl, zz_in 363 rfl rfl⟩
set_option maxRecDepth 100000 in
theorem lk_RL_55 {M : zz_MD} (h : M.1.cls = RL := by rfl) : zz_cV M mX7_filled 55 2 := by
  unfold zz_cV zz_cB
  rw [h]
  exact ⟨⟨zz_in 772 rfl rfl, zz_in 45 rfl rfl, zz_in 769 rfl rfl, ⟨by decide, by decide, by decide +kernel⟩, by decide⟩, zz_in 770 rfl rfl, zz_in 771 rfl rfl⟩
set_option maxRecDepth 100000 in
theorem lk_RL_56 {M : zz_MD} (h : M.1.cls = RL := by rfl) : zz_cV M mX6_rate 56 2 := by
  unfold zz_cV zz_cB
  rw [h]
  exact ⟨⟨zz_in 378 rfl rfl, zz_in 39 rfl rfl, zz_in 375 rfl rfl, ⟨by decide, by decide, by decide +kernel⟩, by decide⟩, zz_in 376 rfl rfl, zz_in 377 rfl rfl⟩
set_option maxRecDepth 100000 in
theorem lk_RL_59 {M : zz_MD} (h : M.1.cls = RL := by rfl) : zz_cV M mX7_rate 59 2 := by
  unfold zz_cV zz_cB
  rw [h]
  exact ⟨⟨zz_in 780 rfl rfl, zz_in 45 rfl rfl, zz_in 777 rfl rfl, ⟨by decide, by decide, by decide +kernel⟩, by decide⟩, zz_in 778 rfl rfl, zz_in 779 rfl rfl⟩
set_option maxRecDepth 100000 in
theorem lk_RL_60 {M : zz_MD} (h : M.1.cls = RL := by rfl) : zz_cV M mX6_price 60 1 := by
  unfold zz_cV zz_cB
  rw [h]
  exact ⟨⟨zz_in 382 rfl rfl, zz_in 39 rfl rfl, zz_in 379 rfl rfl, ⟨by decide, by decide, by decide +kernel⟩, by decide⟩, zz_in 380 rfl rfl, zz_in 381 rfl rfl⟩
set_option maxRecDepth 100000 in
theorem lk_RL_63 {M : zz_MD} (h : M.1.cls = RL := by rfl) : zz_cV M mX7_price 63 1 := by
  unfold zz_cV zz_cB
  rw [h]
  exact ⟨⟨zz_in 784 rfl rfl, zz_in 45 rfl rfl, zz_in 781 rfl rfl, ⟨by decide, by decide, by decide +kernel⟩, by decide⟩, zz_in 782 rfl rfl, zz_in 783 rfl rfl⟩
set_option maxRecDepth 100000 in
theorem lk_RL_64 {M : zz_MD} (h : M.1.cls = RL := by rfl) : zz_cV M mX6_order 64 1 := by
  unfold zz_cV zz_cB
  rw [h]
  exact ⟨⟨zz_in 400 rfl rfl, zz_in 39 rfl rfl, zz_in 397 rfl rfl, ⟨by decide, by decide, by decide +kernel⟩, by decide⟩, zz_in 398 rfl rfl, zz_in 399 rfl rfl⟩
set_option maxRecDepth 100000 in
theorem lk_RL_67 {M : zz_MD} (h : M.1.cls = RL := by rfl) : zz_cV M mX7_order 67 1 := by
  unfold zz_cV zz_cB
  rw [h]
  exact ⟨⟨zz_in 795 rfl rfl, zz_in 45 rfl rfl, zz_in 792 rfl rfl, ⟨by decide, by decide, by decide +kernel⟩, by decide⟩, zz_in 793 rfl rfl, zz_in 794 rfl rfl⟩
set_option maxRecDepth 100000 in
theorem lk_RL_68 {M : zz_MD} (h : M.1.cls = RL := by rfl) : zz_cV M mX6_kept 68 0 := by
  unfold zz_cV zz_cB
  rw [h]
  exact ⟨⟨zz_in 431 rfl rfl, zz_in 39 rfl rfl, zz_in 428 rfl rfl, ⟨by decide, by decide, by decide +kernel⟩, by decide⟩, zz_in 429 rfl rfl, zz_in 430 rfl rfl⟩
set_option maxRecDepth 100000 in
theorem lk_RL_71 {M : zz_MD} (h : M.1.cls = RL := by rfl) : zz_cV M mX7_kept 71 0 := by
  unfold zz_cV zz_cB
  rw [h]
  exact ⟨⟨zz_in 817 rfl rfl, zz_in 45 rfl rfl, zz_in 814 rfl rfl, ⟨by decide, by decide, by decide +kernel⟩, by decide⟩, zz_in 815 rfl rfl, zz_in 816 rfl rfl⟩
set_option maxRecDepth 100000 in
theorem lk_RL_72 {M : zz_MD} (h : M.1.cls = RL := by rfl) : zz_cV M mX6_must 72 2 := by
  unfold zz_cV zz_cB
  rw [h]
  exact ⟨⟨zz_in 453 rfl rfl, zz_in 39 rfl rfl, zz_in 450 rfl rfl, ⟨by decide, by decide, by decide +kernel⟩, by decide⟩, zz_in 451 rfl rfl, zz_in 452 rfl rfl⟩
set_option maxRecDepth 100000 in
theorem lk_RL_75 {M : zz_MD} (h : M.1.cls = RL := by rfl) : zz_cV M mX7_must 75 2 := by
  unfold zz_cV zz_cB
  rw [h]
  exact ⟨⟨zz_in 828 rfl rfl, zz_in 45 rfl rfl, zz_in 825 rfl rfl, ⟨by decide, by decide, by decide +kernel⟩, by decide⟩, zz_in 826 rfl rfl, zz_in 827 rfl rfl⟩
set_option maxRecDepth 100000 in
theorem lk_RL_76 {M : zz_MD} (h : M.1.cls = RL := by rfl) : zz_cV M mX6_wrongs 76 0 := by
  unfold zz_cV zz_cB
  rw [h]
  exact ⟨⟨zz_in 460 rfl rfl, zz_in 39 rfl rfl, zz_in 457 rfl rfl, ⟨by decide, by decide, by decide +kernel⟩, by decide⟩, zz_in 458 rfl rfl, zz_in 459 rfl rfl⟩
set_option maxRecDepth 100000 in
theorem lk_RL_79 {M : zz_MD} (h : M.1.cls = RL := by rfl) : zz_cV M mX7_wrongs 79 0 := by
  unfold zz_cV zz_cB
  rw [h]
  exact ⟨⟨zz_in 835 rfl rfl, zz_in 45 rfl rfl, zz_in 832 rfl rfl, ⟨by decide, by decide, by decide +kernel⟩, by decide⟩, zz_in 833 rfl rfl, zz_in 834 rfl rfl⟩
set_option maxRecDepth 100000 in
theorem lk_RL_80 {M : zz_MD} (h : M.1.cls = RL := by rfl) : zz_cV M mX6_goes 80 3 := by
  unfold zz_cV zz_cB
  rw [h]
  exact ⟨⟨zz_in 471 rfl rfl, zz_in 39 rfl rfl, zz_in 468 rfl rfl, ⟨by decide, by decide, by decide +kernel⟩, by decide⟩, zz_in 469 rfl rfl, zz_in 470 rfl rfl⟩
set_option maxRecDepth 100000 in
theorem lk_RL_84 {M : zz_MD} (h : M.1.cls = RL := by rfl) : zz_cV M mX7_goes 84 3 := by
  unfold zz_cV zz_cB
  rw [h]
  exact ⟨⟨zz_in 851 rfl rfl, zz_in 45 rfl rfl, zz_in 848 rfl rfl, ⟨by decide, by decide, by decide +kernel⟩, by decide⟩, zz_in 849 rfl rfl, zz_in 850 rfl rfl⟩
set_option maxRecDepth 100000 in
theorem lk_RL_85 {M : zz_MD} (h : M.1.cls = RL := by rfl) : zz_cV M mX6_learnt 85 1 := by
  unfold zz_cV zz_cB
  rw [h]
  exact ⟨⟨zz_in 493 rfl rfl, zz_in 39 rfl rfl, zz_in 490 rfl rfl, ⟨by decide, by decide, by decide +kernel⟩, by decide⟩, zz_in 491 rfl rfl, zz_in 492 rfl rfl⟩
set_option maxRecDepth 100000 in
theorem lk_RL_88 {M : zz_MD} (h : M.1.cls = RL := by rfl) : zz_cV M mX7_learnt 88 1 := by
  unfold zz_cV zz_cB
  rw [h]
  exact ⟨⟨zz_in 861 rfl rfl, zz_in 45 rfl rfl, zz_in 858 rfl rfl, ⟨by decide, by decide, by decide +kernel⟩, by decide⟩, zz_in 859 rfl rfl, zz_in 860 rfl rfl⟩
set_option maxRecDepth 100000 in
theorem lk_RL_89 {M : zz_MD} (h : M.1.cls = RL := by rfl) : zz_cV M mX6_otherwise 89 3 := by
  unfold zz_cV zz_cB
  rw [h]
  exact ⟨⟨zz_in 502 rfl rfl, zz_in 39 rfl rfl, zz_in 499 rfl rfl, ⟨by decide, by decide, by decide +kernel⟩, by decide⟩, zz_in 500 rfl rfl, zz_in 501 rfl rfl⟩
set_option maxRecDepth 100000 in
theorem lk_RL_93 {M : zz_MD} (h : M.1.cls = RL := by rfl) : zz_cV M mX7_otherwise 93 3 := by
  unfold zz_cV zz_cB
  rw [h]
  exact ⟨⟨zz_in 865 rfl rfl, zz_in 45 rfl rfl, zz_in 862 rfl rfl, ⟨by decide, by decide, by decide +kernel⟩, by decide⟩, zz_in 863 rfl rfl, zz_in 864 rfl rfl⟩
set_option maxRecDepth 100000 in
theorem lk_RL_94 {M : zz_MD} (h : M.1.cls = RL := by rfl) : zz_cV M mX6_clash 94 0 := by
  unfold zz_cV zz_cB
  rw [h]
  exact ⟨⟨zz_in 517 rfl rfl, zz_in 39 rfl rfl, zz_in 514 rfl rfl, ⟨by decide, by decide, by decide +kernel⟩, by decide⟩, zz_in 515 rfl rfl, zz_in 516 rfl rfl⟩
set_option maxRecDepth 100000 in
theorem lk_RL_97 {M : zz_MD} (h : M.1.cls = RL := by rfl) : zz_cV M mX7_clash 97 0 := by
  unfold zz_cV zz_cB
  rw [h]
  exact ⟨⟨zz_in 869 rfl rfl, zz_in 45 rfl rfl, zz_in 866 rfl rfl, ⟨by decide, by decide, by decide +kernel⟩, by decide⟩, zz_in 867 rfl rfl, zz_in 868 rfl rfl⟩
set_option maxRecDepth 100000 in
theorem lk_RL_98 {M : zz_MD} (h : M.1.cls = RL := by rfl) : zz_cV M mX6_length 98 2 := by
  unfold zz_cV zz_cB
  rw [h]
  exact ⟨⟨zz_in 522 rfl rfl, zz_in 39 rfl rfl, zz_in 519 rfl rfl, ⟨by decide, by decide, by decide +kernel⟩, by decide⟩, zz_in 520 rfl rfl, zz_in 521 rfl rfl⟩
set_option maxRecDepth 100000 in
theorem lk_RL_101 {M : zz_MD} (h : M.1.cls = RL := by rfl) : zz_cV M mX7_length 101 2 := by
  unfold zz_cV zz_cB
  rw [h]
  exact ⟨⟨zz_in 876 rfl rfl, zz_in 45 rfl rfl, zz_in 873 rfl rfl, ⟨by decide, by decide, by decide +kernel⟩, by decide⟩, zz_in 874 rfl rfl, zz_in 875 rfl rfl⟩
set_option maxRecDepth 100000 in
theorem lk_RL_102 {M : zz_MD} (h : M.1.cls = RL := by rfl) : zz_cV M mX6_lengths 102 0 := by
  unfold zz_cV zz_cB
  rw [h]
  exact ⟨⟨zz_in 526 rfl rfl, zz_in 39 rfl rfl, zz_in 523 rfl rfl, ⟨by decide, by decide, by decide +kernel⟩, by decide⟩, zz_in 524 rfl rfl, zz_in 525 rfl rfl⟩
set_option maxRecDepth 100000 in
theorem lk_RL_105 {M : zz_MD} (h : M.1.cls = RL := by rfl) : zz_cV M mX7_lengths 105 0 := by
  unfold zz_cV zz_cB
  rw [h]
  exact ⟨⟨zz_in 880 rfl rfl, zz_in 45 rfl rfl, zz_in 877 rfl rfl, ⟨by decide, by decide, by decide +kernel⟩, by decide⟩, zz_in 878 rfl rfl, zz_in 879 rfl rfl⟩
set_option maxRecDepth 100000 in
theorem lk_RL_106 {M : zz_MD} (h : M.1.cls = RL := by rfl) : zz_cV M mX6_laid 106 1 := by
  unfold zz_cV zz_cB
  rw [h]
  exact ⟨⟨zz_in 530 rfl rfl, zz_in 39 rfl rfl, zz_in 527 rfl rfl, ⟨by decide, by decide, by decide +kernel⟩, by decide⟩, zz_in 528 rfl rfl, zz_in 529 rfl rfl⟩
set_option maxRecDepth 100000 in
theorem lk_RL_110 {M : zz_MD} (h : M.1.cls = RL := by rfl) : zz_cV M mX7_laid 110 1 := by
  unfold zz_cV zz_cB
  rw [h]
  exact ⟨⟨zz_in 884 rfl rfl, zz_in 45 rfl rfl, zz_in 881 rfl rfl, ⟨by decide, by decide, by decide +kernel⟩, by decide⟩, zz_in 882 rfl rfl, zz_in 883 rfl rfl⟩
set_option maxRecDepth 100000 in
theorem lk_RL_111 {M : zz_MD} (h : M.1.cls = RL := by rfl) : zz_cV M mX6_image 111 1 := by
  unfold zz_cV zz_cB
  rw [h]
  exact ⟨⟨zz_in 572 rfl rfl, zz_in 39 rfl rfl, zz_in 569 rfl rfl, ⟨by decide, by decide, by decide +kernel⟩, by decide⟩, zz_in 570 rfl rfl, zz_in 571 rfl rfl⟩
set_option maxRecDepth 100000 in
theorem lk_RL_114 {M : zz_MD} (h : M.1.cls = RL := by rfl) : zz_cV M mX7_image 114 1 := by
  unfold zz_cV zz_cB
  rw [h]
  exact ⟨⟨zz_in 906 rfl rfl, zz_in 45 rfl rfl, zz_in 903 rfl rfl, ⟨by decide, by decide, by decide +kernel⟩, by decide⟩, zz_in 904 rfl rfl, zz_in 905 rfl rfl⟩
set_option maxRecDepth 100000 in
theorem lk_RL_115 {M : zz_MD} (h : M.1.cls = RL := by rfl) : zz_cV M mX6_restore 115 1 := by
  unfold zz_cV zz_cB
  rw [h]
  exact ⟨⟨zz_in 593 rfl rfl, zz_in 39 rfl rfl, zz_in 590 rfl rfl, ⟨by decide, by decide, by decide +kernel⟩, by decide⟩, zz_in 591 rfl rfl, zz_in 592 rfl rfl⟩
set_option maxRecDepth 100000 in
theorem lk_RL_118 {M : zz_MD} (h : M.1.cls = RL := by rfl) : zz_cV M mX7_restore 118 1 := by
  unfold zz_cV zz_cB
  rw [h]
  exact ⟨⟨zz_in 910 rfl rfl, zz_in 45 rfl rfl, zz_in 907 rfl rfl, ⟨by decide, by decide, by decide +kernel⟩, by decide⟩, zz_in 908 rfl rfl, zz_in 909 rfl rfl⟩
set_option maxRecDepth 100000 in
theorem lk_RL_119 {M : zz_MD} (h : M.1.cls = RL := by rfl) : zz_cV M mX6_told 119 1 := by
  unfold zz_cV zz_cB
  rw [h]
  exact ⟨⟨zz_in 597 rfl rfl, zz_in 39 rfl rfl, zz_in 594 rfl rfl, ⟨by decide, by decide, by decide +kernel⟩, by decide⟩, zz_in 595 rfl rfl, zz_in 596 rfl rfl⟩
set_option maxRecDepth 100000 in
theorem lk_RL_122 {M : zz_MD} (h : M.1.cls = RL := by rfl) : zz_cV M mX7_told 122 1 := by
  unfold zz_cV zz_cB
  rw [h]
  exact ⟨⟨zz_in 914 rfl rfl, zz_in 45 rfl rfl, zz_in 911 rfl rfl, ⟨by decide, by decide, by decide +kernel⟩, by decide⟩, zz_in 912 rfl rfl, zz_in 913 rfl rfl⟩
set_option maxRecDepth 100000 in
theorem lk_RX0_34 {M : zz_MD} (h : M.1.cls = RX0 := by rfl) : zz_cV M mX0_layFrom 34 4 := by
  unfold zz_cV zz_cB
  rw [h]
  exact ⟨⟨zz_in 538 rfl rfl, zz_in 44 rfl rfl, zz_in 535 rfl rfl, ⟨by decide, by decide, by decide +kernel⟩, by decide⟩, zz_in 537 rfl rfl, zz_in 11 rfl rfl⟩
set_option maxRecDepth 100000 in
theorem lk_RX0_38 {M : zz_MD} (h : M.1.cls = RX0 := by rfl) : zz_cV M mX0_readSteps 38 2 := by
  unfold zz_cV zz_cB
  rw [h]
  exact ⟨⟨zz_in 563 rfl rfl, zz_in 44 rfl rfl, zz_in 560 rfl rfl, ⟨by decide, by decide, by decide +kernel⟩, by decide⟩, zz_in 562 rfl rfl, zz_in 13 rfl rfl⟩
set_option maxRecDepth 100000 in
theorem lk_RX0_43 {M : zz_MD} (h : M.1.cls = RX0 := by rfl) : zz_cS M mX0_fits 43 5 := by
  unfold zz_cS zz_cB
  rw [h]
  exact ⟨⟨zz_in 542 rfl rfl, zz_in 44 rfl rfl, zz_in 540 rfl rfl, ⟨by decide, by decide, by decide +kernel⟩, by decide⟩, zz_in 541 rfl rfl⟩
set_option maxRecDepth 100000 in
theorem lk_RX0_47 {M : zz_MD} (h : M.1.cls = RX0 := by rfl) : zz_cV M mX0_costWith 47 5 := by
  unfold zz_cV zz_cB
  rw [h]
  exact ⟨⟨zz_in 550 rfl rfl, zz_in 44 rfl rfl, zz_in 547 rfl rfl, ⟨by decide, by decide, by decide +kernel⟩, by decide⟩, zz_in 549 rfl rfl, zz_in 12 rfl rfl⟩
set_option maxRecDepth 100000 in
theorem lk_RX0_58 {M : zz_MD} (h : M.1.cls = RX0 := by rfl) : zz_cS M mX0_together 58 3 := by
  unfold zz_cS zz_cB
  rw [h]
  exact ⟨⟨zz_in 553 rfl rfl, zz_in 44 rfl rfl, zz_in 551 rfl rfl, ⟨by decide, by decide, by decide +kernel⟩, by decide⟩, zz_in 552 rfl rfl⟩
set_option maxRecDepth 100000 in
theorem lk_RX0_71 {M : zz_MD} (h : M.1.cls = RX0 := by rfl) : zz_cV M mX4_at 71 1 := by
  unfold zz_cV zz_cB
  rw [h]
  exact ⟨⟨zz_in 266 rfl rfl, zz_in 40 rfl rfl, zz_in 554 rfl rfl, ⟨by decide, by decide, by decide +kernel⟩, by decide⟩, zz_in 264 rfl rfl, zz_in 265 rfl rfl⟩
set_option maxRecDepth 100000 in
theorem lk_RX0_74 {M : zz_MD} (h : M.1.cls = RX0 := by rfl) : zz_cV M mX0_firstOfLeast 74 4 := by
  unfold zz_cV zz_cB
  rw [h]
  exact ⟨⟨zz_in 567 rfl rfl, zz_in 44 rfl rfl, zz_in 564 rfl rfl, ⟨by decide, by decide, by decide +kernel⟩, by decide⟩, zz_in 566 rfl rfl, zz_in 14 rfl rfl⟩
set_option maxRecDepth 100000 in
theorem lk_RX0_78 {M : zz_MD} (h : M.1.cls = RX0 := by rfl) : zz_cV M mX4_add 78 1 := by
  unfold zz_cV zz_cB
  rw [h]
  exact ⟨⟨zz_in 246 rfl rfl, zz_in 40 rfl rfl, zz_in 568 rfl rfl, ⟨by decide, by decide, by decide +kernel⟩, by decide⟩, zz_in 244 rfl rfl, zz_in 245 rfl rfl⟩
set_option maxRecDepth 100000 in
theorem lk_RX1_27 {M : zz_MD} (h : M.1.cls = RX1 := by rfl) : zz_cV M mX4_at 27 1 := by
  unfold zz_cV zz_cB
  rw [h]
  exact ⟨⟨zz_in 266 rfl rfl, zz_in 40 rfl rfl, zz_in 313 rfl rfl, ⟨by decide, by decide, by decide +kernel⟩, by decide⟩, zz_in 264 rfl rfl, zz_in 265 rfl rfl⟩
set_option maxRecDepth 100000 in
theorem lk_RX1_31 {M : zz_MD} (h : M.1.cls = RX1 := by rfl) : zz_cS M mX1_costOfChange 31 2 := by
  unfold zz_cS zz_cB
  rw [h]
  exact ⟨⟨zz_in 316 rfl rfl, zz_in 42 rfl rfl, zz_in 314 rfl rfl, ⟨by decide, by decide, by decide +kernel⟩, by decide⟩, zz_in 315 rfl rfl⟩
set_option maxRecDepth 100000 in
theorem lk_RX1_41 {M : zz_MD} (h : M.1.cls = RX1 := by rfl) : zz_cV M mX1_farOf 41 2 := by
  unfold zz_cV zz_cB
  rw [h]
  exact ⟨⟨zz_in 309 rfl rfl, zz_in 42 rfl rfl, zz_in 306 rfl rfl, ⟨by decide, by decide, by decide +kernel⟩, by decide⟩, zz_in 307 rfl rfl, zz_in 308 rfl rfl⟩
set_option maxRecDepth 100000 in
theorem lk_RX1_54 {M : zz_MD} (h : M.1.cls = RX1 := by rfl) : zz_cV M mX1_likeOf 54 2 := by
  unfold zz_cV zz_cB
  rw [h]
  exact ⟨⟨zz_in 302 rfl rfl, zz_in 42 rfl rfl, zz_in 299 rfl rfl, ⟨by decide, by decide, by decide +kernel⟩, by decide⟩, zz_in 301 rfl rfl, zz_in 4 rfl rfl⟩
set_option maxRecDepth 100000 in
theorem lk_RX1_57 {M : zz_MD} (h : M.1.cls = RX1 := by rfl) : zz_cV M mX2_standsAsBefore 57 2 := by
  unfold zz_cV zz_cB
  rw [h]
  exact ⟨⟨zz_in 321 rfl rfl, zz_in 41 rfl rfl, zz_in 318 rfl rfl, ⟨by decide, by decide, by decide +kernel⟩, by decide⟩, zz_in 319 rfl rfl, zz_in 320 rfl rfl⟩
set_option maxRecDepth 100000 in
theorem lk_RX1_68 {M : zz_MD} (h : M.1.cls = RX1 := by rfl) : zz_cV M mX1_matchOf 68 3 := by
  unfold zz_cV zz_cB
  rw [h]
  exact ⟨⟨zz_in 298 rfl rfl, zz_in 42 rfl rfl, zz_in 295 rfl rfl, ⟨by decide, by decide, by decide +kernel⟩, by decide⟩, zz_in 297 rfl rfl, zz_in 3 rfl rfl⟩
set_option maxRecDepth 100000 in
theorem lk_RX2_58 {M : zz_MD} (h : M.1.cls = RX2 := by rfl) : zz_cV M mX2_isSentence 58 1 := by
  unfold zz_cV zz_cB
  rw [h]
  exact ⟨⟨zz_in 325 rfl rfl, zz_in 41 rfl rfl, zz_in 322 rfl rfl, ⟨by decide, by decide, by decide +kernel⟩, by decide⟩, zz_in 323 rfl rfl, zz_in 324 rfl rfl⟩
set_option maxRecDepth 100000 in
theorem lk_RX2_62 {M : zz_MD} (h : M.1.cls = RX2 := by rfl) : zz_cV M mX2_isPair 62 1 := by
  unfold zz_cV zz_cB
  rw [h]
  exact ⟨⟨zz_in 284 rfl rfl, zz_in 41 rfl rfl, zz_in 326 rfl rfl, ⟨by decide, by decide, by decide +kernel⟩, by decide⟩, zz_in 282 rfl rfl, zz_in 283 rfl rfl⟩
set_option maxRecDepth 100000 in
theorem lk_RX2_65 {M : zz_MD} (h : M.1.cls = RX2 := by rfl) : zz_cV M mX4_sameAs 65 1 := by
  unfold zz_cV zz_cB
  rw [h]
  exact ⟨⟨zz_in 330 rfl rfl, zz_in 40 rfl rfl, zz_in 327 rfl rfl, ⟨by decide, by decide, by decide +kernel⟩, by decide⟩, zz_in 328 rfl rfl, zz_in 329 rfl rfl⟩
set_option maxRecDepth 100000 in
theorem lk_RX2_69 {M : zz_MD} (h : M.1.cls = RX2 := by rfl) : zz_cV M mX2_takePairs 69 1 := by
  unfold zz_cV zz_cB
  rw [h]
  exact ⟨⟨zz_in 580 rfl rfl, zz_in 41 rfl rfl, zz_in 577 rfl rfl, ⟨by decide, by decide, by decide +kernel⟩, by decide⟩, zz_in 579 rfl rfl, zz_in 15 rfl rfl⟩
set_option maxRecDepth 100000 in
theorem lk_RX2_73 {M : zz_MD} (h : M.1.cls = RX2 := by rfl) : zz_cV M mX2_takeText 73 1 := by
  unfold zz_cV zz_cB
  rw [h]
  exact ⟨⟨zz_in 589 rfl rfl, zz_in 41 rfl rfl, zz_in 586 rfl rfl, ⟨by decide, by decide, by decide +kernel⟩, by decide⟩, zz_in 588 rfl rfl, zz_in 16 rfl rfl⟩
set_option maxRecDepth 100000 in
theorem lk_RX2_76 {M : zz_MD} (h : M.1.cls = RX2 := by rfl) : zz_cV M mX4_take 76 1 := by
  unfold zz_cV zz_cB
  rw [h]
  exact ⟨⟨zz_in 584 rfl rfl, zz_in 40 rfl rfl, zz_in 581 rfl rfl, ⟨by decide, by decide, by decide +kernel⟩, by decide⟩, zz_in 582 rfl rfl, zz_in 583 rfl rfl⟩
set_option maxRecDepth 100000 in
theorem lk_RX3_40 {M : zz_MD} (h : M.1.cls = RX3 := by rfl) : zz_cV M mX2_bestFor 40 1 := by
  unfold zz_cV zz_cB
  rw [h]
  exact ⟨⟨zz_in 360 rfl rfl, zz_in 41 rfl rfl, zz_in 392 rfl rfl, ⟨by decide, by decide, by decide +kernel⟩, by decide⟩, zz_in 358 rfl rfl, zz_in 359 rfl rfl⟩
set_option maxRecDepth 100000 in
theorem lk_RX3_49 {M : zz_MD} (h : M.1.cls = RX3 := by rfl) : zz_cS M mX3_bandOf 49 1 := by
  unfold zz_cS zz_cB
  rw [h]
  exact ⟨⟨zz_in 395 rfl rfl, zz_in 43 rfl rfl, zz_in 393 rfl rfl, ⟨by decide, by decide, by decide +kernel⟩, by decide⟩, zz_in 394 rfl rfl⟩
set_option maxRecDepth 100000 in
theorem lk_RX3_52 {M : zz_MD} (h : M.1.cls = RX3 := by rfl) : zz_cS M mX3_bandFound 52 2 := by
  unfold zz_cS zz_cB
  rw [h]
  exact ⟨⟨zz_in 391 rfl rfl, zz_in 43 rfl rfl, zz_in 389 rfl rfl, ⟨by decide, by decide, by decide +kernel⟩, by decide⟩, zz_in 390 rfl rfl⟩
set_option maxRecDepth 100000 in
theorem lk_RX3_70 {M : zz_MD} (h : M.1.cls = RX3 := by rfl) : zz_cS M mX3_ofSentence 70 2 := by
  unfold zz_cS zz_cB
  rw [h]
  exact ⟨⟨zz_in 388 rfl rfl, zz_in 43 rfl rfl, zz_in 386 rfl rfl, ⟨by decide, by decide, by decide +kernel⟩, by decide⟩, zz_in 387 rfl rfl⟩
set_option maxRecDepth 100000 in
theorem lk_RX3_73 {M : zz_MD} (h : M.1.cls = RX3 := by rfl) : zz_cV M mX3_readRatesByMemory 73 1 := by
  unfold zz_cV zz_cB
  rw [h]
  exact ⟨⟨zz_in 408 rfl rfl, zz_in 43 rfl rfl, zz_in 405 rfl rfl, ⟨by decide, by decide, by decide +kernel⟩, by decide⟩, zz_in 407 rfl rfl, zz_in 5 rfl rfl⟩
set_option maxRecDepth 100000 in
theorem lk_RX3_77 {M : zz_MD} (h : M.1.cls = RX3 := by rfl) : zz_cV M mX3_readHelpers 77 1 := by
  unfold zz_cV zz_cB
  rw [h]
  exact ⟨⟨zz_in 413 rfl rfl, zz_in 43 rfl rfl, zz_in 410 rfl rfl, ⟨by decide, by decide, by decide +kernel⟩, by decide⟩, zz_in 412 rfl rfl, zz_in 6 rfl rfl⟩
set_option maxRecDepth 100000 in
theorem lk_RX3_80 {M : zz_MD} (h : M.1.cls = RX3 := by rfl) : zz_cV M mX3_chooseNext 80 2 := by
  unfold zz_cV zz_cB
  rw [h]
  exact ⟨⟨zz_in 417 rfl rfl, zz_in 43 rfl rfl, zz_in 414 rfl rfl, ⟨by decide, by decide, by decide +kernel⟩, by decide⟩, zz_in 416 rfl rfl, zz_in 7 rfl rfl⟩
set_option maxRecDepth 100000 in
theorem lk_RX3_84 {M : zz_MD} (h : M.1.cls = RX3 := by rfl) : zz_cV M mX4_add 84 1 := by
  unfold zz_cV zz_cB
  rw [h]
  exact ⟨⟨zz_in 246 rfl rfl, zz_in 40 rfl rfl, zz_in 423 rfl rfl, ⟨by decide, by decide, by decide +kernel⟩, by decide⟩, zz_in 244 rfl rfl, zz_in 245 rfl rfl⟩
set_option maxRecDepth 100000 in
theorem lk_RX3_101 {M : zz_MD} (h : M.1.cls = RX3 := by rfl) : zz_cV M mX3_priceWith 101 3 := by
  unfold zz_cV zz_cB
  rw [h]
  exact ⟨⟨zz_in 422 rfl rfl, zz_in 43 rfl rfl, zz_in 419 rfl rfl, ⟨by decide, by decide, by decide +kernel⟩, by decide⟩, zz_in 421 rfl rfl, zz_in 8 rfl rfl⟩
set_option maxRecDepth 100000 in
theorem lk_RX3_105 {M : zz_MD} (h : M.1.cls = RX3 := by rfl) : zz_cV M mX3_readNeeded 105 1 := by
  unfold zz_cV zz_cB
  rw [h]
  exact ⟨⟨zz_in 439 rfl rfl, zz_in 43 rfl rfl, zz_in 436 rfl rfl, ⟨by decide, by decide, by decide +kernel⟩, by decide⟩, zz_in 438 rfl rfl, zz_in 9 rfl rfl⟩
set_option maxRecDepth 100000 in
theorem lk_RX3_108 {M : zz_MD} (h : M.1.cls = RX3 := by rfl) : zz_cS M mJ6_bitCount_0f7a4 108 1 := by
  unfold zz_cS zz_cB
  rw [h]
  exact ⟨⟨zz_in 442 rfl rfl, zz_in 47 rfl rfl, zz_in 440 rfl rfl, ⟨by decide, by decide, by decide +kernel⟩, by decide⟩, zz_in 441 rfl rfl⟩
set_option maxRecDepth 100000 in
theorem lk_RX3_113 {M : zz_MD} (h : M.1.cls = RX3 := by rfl) : zz_cV M mX3_isEnough 113 2 := by
  unfold zz_cV zz_cB
  rw [h]
  exact ⟨⟨zz_in 449 rfl rfl, zz_in 43 rfl rfl, zz_in 446 rfl rfl, ⟨by decide, by decide, by decide +kernel⟩, by decide⟩, zz_in 448 rfl rfl, zz_in 10 rfl rfl⟩
set_option maxRecDepth 100000 in
theorem lk_RX4_19 {M : zz_MD} (h : M.1.cls = RX4 := by rfl) : zz_cV M mX4_at 19 1 := by
  unfold zz_cV zz_cB
  rw [h]
  exact ⟨⟨zz_in 266 rfl rfl, zz_in 40 rfl rfl, zz_in 289 rfl rfl, ⟨by decide, by decide, by decide +kernel⟩, by decide⟩, zz_in 264 rfl rfl, zz_in 265 rfl rfl⟩
set_option maxRecDepth 100000 in
theorem lk_RX4_23 {M : zz_MD} (h : M.1.cls = RX4 := by rfl) : zz_cV M mX4_add 23 1 := by
  unfold zz_cV zz_cB
  rw [h]
  exact ⟨⟨zz_in 246 rfl rfl, zz_in 40 rfl rfl, zz_in 290 rfl rfl, ⟨by decide, by decide, by decide +kernel⟩, by decide⟩, zz_in 244 rfl rfl, zz_in 245 rfl rfl⟩
set_option maxRecDepth 100000 in
theorem lk_RX4_27 {M : zz_MD} (h : M.1.cls = RX4 := by rfl) : zz_cV M mX4_takePart 27 3 := by
  unfold zz_cV zz_cB
  rw [h]
  exact ⟨⟨zz_in 288 rfl rfl, zz_in 40 rfl rfl, zz_in 585 rfl rfl, ⟨by decide, by decide, by decide +kernel⟩, by decide⟩, zz_in 286 rfl rfl, zz_in 287 rfl rfl⟩
set_option maxRecDepth 100000 in
theorem lk_RX5_19 {M : zz_MD} (h : M.1.cls = RX5 := by rfl) : zz_cV M mX4_timesOf 19 1 := by
  unfold zz_cV zz_cB
  rw [h]
  exact ⟨⟨zz_in 467 rfl rfl, zz_in 40 rfl rfl, zz_in 464 rfl rfl, ⟨by decide, by decide, by decide +kernel⟩, by decide⟩, zz_in 465 rfl rfl, zz_in 466 rfl rfl⟩
set_option maxRecDepth 100000 in
theorem lk_RX5_28 {M : zz_MD} (h : M.1.cls = RX5 := by rfl) : zz_cV M mX4_placeOf 28 1 := by
  unfold zz_cV zz_cB
  rw [h]
  exact ⟨⟨zz_in 374 rfl rfl, zz_in 40 rfl rfl, zz_in 480 rfl rfl, ⟨by decide, by decide, by decide +kernel⟩, by decide⟩, zz_in 372 rfl rfl, zz_in 373 rfl rfl⟩
set_option maxRecDepth 100000 in
theorem lk_RX5_35 {M : zz_MD} (h : M.1.cls = RX5 := by rfl) : zz_cS M mX5_inFirst 35 3 := by
  unfold zz_cS zz_cB
  rw [h]
  exact ⟨⟨zz_in 479 rfl rfl, zz_in 48 rfl rfl, zz_in 477 rfl rfl, ⟨by decide, by decide, by decide +kernel⟩, by decide⟩, zz_in 478 rfl rfl⟩
set_option maxRecDepth 100000 in
theorem lk_RX5_41 {M : zz_MD} (h : M.1.cls = RX5 := by rfl) : zz_cS M mX5_inSecond 41 3 := by
  unfold zz_cS zz_cB
  rw [h]
  exact ⟨⟨zz_in 483 rfl rfl, zz_in 48 rfl rfl, zz_in 481 rfl rfl, ⟨by decide, by decide, by decide +kernel⟩, by decide⟩, zz_in 482 rfl rfl⟩
set_option maxRecDepth 100000 in
theorem lk_RX5_44 {M : zz_MD} (h : M.1.cls = RX5 := by rfl) : zz_cS M mX5_pairsWithBoth 44 3 := by
  unfold zz_cS zz_cB
  rw [h]
  exact ⟨⟨zz_in 476 rfl rfl, zz_in 48 rfl rfl, zz_in 497 rfl rfl, ⟨by decide, by decide, by decide +kernel⟩, by decide⟩, zz_in 475 rfl rfl⟩
set_option maxRecDepth 100000 in
theorem lk_RX5_48 {M : zz_MD} (h : M.1.cls = RX5 := by rfl) : zz_cS M mX5_pairsWithEither 48 3 := by
  unfold zz_cS zz_cB
  rw [h]
  exact ⟨⟨zz_in 486 rfl rfl, zz_in 48 rfl rfl, zz_in 498 rfl rfl, ⟨by decide, by decide, by decide +kernel⟩, by decide⟩, zz_in 485 rfl rfl⟩
set_option maxRecDepth 100000 in
theorem lk_RX5_51 {M : zz_MD} (h : M.1.cls = RX5 := by rfl) : zz_cS M mX5_changeIn 51 3 := by
  unfold zz_cS zz_cB
  rw [h]
  exact ⟨⟨zz_in 508 rfl rfl, zz_in 48 rfl rfl, zz_in 506 rfl rfl, ⟨by decide, by decide, by decide +kernel⟩, by decide⟩, zz_in 507 rfl rfl⟩
set_option maxRecDepth 100000 in
theorem lk_RX5_58 {M : zz_MD} (h : M.1.cls = RX5 := by rfl) : zz_cV M mX4_at 58 1 := by
  unfold zz_cV zz_cB
  rw [h]
  exact ⟨⟨zz_in 266 rfl rfl, zz_in 40 rfl rfl, zz_in 509 rfl rfl, ⟨by decide, by decide, by decide +kernel⟩, by decide⟩, zz_in 264 rfl rfl, zz_in 265 rfl rfl⟩
set_option maxRecDepth 100000 in
theorem lk_RX5_61 {M : zz_MD} (h : M.1.cls = RX5 := by rfl) : zz_cV M mX4_put 61 2 := by
  unfold zz_cV zz_cB
  rw [h]
  exact ⟨⟨zz_in 513 rfl rfl, zz_in 40 rfl rfl, zz_in 510 rfl rfl, ⟨by decide, by decide, by decide +kernel⟩, by decide⟩, zz_in 511 rfl rfl, zz_in 512 rfl rfl⟩
set_option maxRecDepth 100000 in
theorem lk_RX6_54 {M : zz_MD} (h : M.1.cls = RX6 := by rfl) : zz_cV M mX4_add 54 1 := by
  unfold zz_cV zz_cB
  rw [h]
  exact ⟨⟨zz_in 246 rfl rfl, zz_in 40 rfl rfl, zz_in 243 rfl rfl, ⟨by decide, by decide, by decide +kernel⟩, by decide⟩, zz_in 244 rfl rfl, zz_in 245 rfl rfl⟩
set_option maxRecDepth 100000 in
theorem lk_RX6_62 {M : zz_MD} (h : M.1.cls = RX6 := by rfl) : zz_cV M mX6_faultAsSentence 62 0 := by
  unfold zz_cV zz_cB
  rw [h]
  exact ⟨⟨zz_in 258 rfl rfl, zz_in 39 rfl rfl, zz_in 255 rfl rfl, ⟨by decide, by decide, by decide +kernel⟩, by decide⟩, zz_in 257 rfl rfl, zz_in 0 rfl rfl⟩
set_option maxRecDepth 100000 in
theorem lk_RX6_66 {M : zz_MD} (h : M.1.cls = RX6 := by rfl) : zz_cV M mX6_faultAsPair 66 0 := by
  unfold zz_cV zz_cB
  rw [h]
  exact ⟨⟨zz_in 276 rfl rfl, zz_in 39 rfl rfl, zz_in 273 rfl rfl, ⟨by decide, by decide, by decide +kernel⟩, by decide⟩, zz_in 275 rfl rfl, zz_in 2 rfl rfl⟩
set_option maxRecDepth 100000 in
theorem lk_RX6_69 {M : zz_MD} (h : M.1.cls = RX6 := by rfl) : zz_cV M mX2_isPair 69 1 := by
  unfold zz_cV zz_cB
  rw [h]
  exact ⟨⟨zz_in 284 rfl rfl, zz_in 41 rfl rfl, zz_in 281 rfl rfl, ⟨by decide, by decide, by decide +kernel⟩, by decide⟩, zz_in 282 rfl rfl, zz_in 283 rfl rfl⟩
set_option maxRecDepth 100000 in
theorem lk_RX6_75 {M : zz_MD} (h : M.1.cls = RX6 := by rfl) : zz_cV M mX6_endOfTongue 75 2 := by
  unfold zz_cV zz_cB
  rw [h]
  exact ⟨⟨zz_in 262 rfl rfl, zz_in 39 rfl rfl, zz_in 259 rfl rfl, ⟨by decide, by decide, by decide +kernel⟩, by decide⟩, zz_in 261 rfl rfl, zz_in 1 rfl rfl⟩
set_option maxRecDepth 100000 in
theorem lk_RX6_83 {M : zz_MD} (h : M.1.cls = RX6 := by rfl) : zz_cV M mX4_takePart 83 3 := by
  unfold zz_cV zz_cB
  rw [h]
  exact ⟨⟨zz_in 288 rfl rfl, zz_in 40 rfl rfl, zz_in 285 rfl rfl, ⟨by decide, by decide, by decide +kernel⟩, by decide⟩, zz_in 286 rfl rfl, zz_in 287 rfl rfl⟩
set_option maxRecDepth 100000 in
theorem lk_RX6_94 {M : zz_MD} (h : M.1.cls = RX6 := by rfl) : zz_cV M mX1_meetPair 94 2 := by
  unfold zz_cV zz_cB
  rw [h]
  exact ⟨⟨zz_in 294 rfl rfl, zz_in 42 rfl rfl, zz_in 291 rfl rfl, ⟨by decide, by decide, by decide +kernel⟩, by decide⟩, zz_in 292 rfl rfl, zz_in 293 rfl rfl⟩
set_option maxRecDepth 100000 in
theorem lk_RX6_104 {M : zz_MD} (h : M.1.cls = RX6 := by rfl) : zz_cV M mX1_meetSentence 104 2 := by
  unfold zz_cV zz_cB
  rw [h]
  exact ⟨⟨zz_in 338 rfl rfl, zz_in 42 rfl rfl, zz_in 335 rfl rfl, ⟨by decide, by decide, by decide +kernel⟩, by decide⟩, zz_in 336 rfl rfl, zz_in 337 rfl rfl⟩
set_option maxRecDepth 100000 in
theorem lk_RX6_107 {M : zz_MD} (h : M.1.cls = RX6 := by rfl) : zz_cV M mX4_at 107 1 := by
  unfold zz_cV zz_cB
  rw [h]
  exact ⟨⟨zz_in 266 rfl rfl, zz_in 40 rfl rfl, zz_in 263 rfl rfl, ⟨by decide, by decide, by decide +kernel⟩, by decide⟩, zz_in 264 rfl rfl, zz_in 265 rfl rfl⟩
set_option maxRecDepth 100000 in
theorem lk_RX6_111 {M : zz_MD} (h : M.1.cls = RX6 := by rfl) : zz_cS M mX6_standsIn 111 2 := by
  unfold zz_cS zz_cB
  rw [h]
  exact ⟨⟨zz_in 269 rfl rfl, zz_in 39 rfl rfl, zz_in 267 rfl rfl, ⟨by decide, by decide, by decide +kernel⟩, by decide⟩, zz_in 268 rfl rfl⟩
set_option maxRecDepth 100000 in
theorem lk_RX6_115 {M : zz_MD} (h : M.1.cls = RX6 := by rfl) : zz_cS M mX6_isNumber 115 1 := by
  unfold zz_cS zz_cB
  rw [h]
  exact ⟨⟨zz_in 272 rfl rfl, zz_in 39 rfl rfl, zz_in 270 rfl rfl, ⟨by decide, by decide, by decide +kernel⟩, by decide⟩, zz_in 271 rfl rfl⟩
set_option maxRecDepth 100000 in
theorem lk_RX6_118 {M : zz_MD} (h : M.1.cls = RX6 := by rfl) : zz_cV M mX2_isSentence 118 1 := by
  unfold zz_cV zz_cB
  rw [h]
  exact ⟨⟨zz_in 325 rfl rfl, zz_in 41 rfl rfl, zz_in 347 rfl rfl, ⟨by decide, by decide, by decide +kernel⟩, by decide⟩, zz_in 323 rfl rfl, zz_in 324 rfl rfl⟩
set_option maxRecDepth 100000 in
theorem lk_RX6_121 {M : zz_MD} (h : M.1.cls = RX6 := by rfl) : zz_cV M mX1_farOf 121 2 := by
  unfold zz_cV zz_cB
  rw [h]
  exact ⟨⟨zz_in 309 rfl rfl, zz_in 42 rfl rfl, zz_in 348 rfl rfl, ⟨by decide, by decide, by decide +kernel⟩, by decide⟩, zz_in 307 rfl rfl, zz_in 308 rfl rfl⟩
set_option maxRecDepth 100000 in
theorem lk_RX6_129 {M : zz_MD} (h : M.1.cls = RX6 := by rfl) : zz_cV M mX2_bestFor 129 1 := by
  unfold zz_cV zz_cB
  rw [h]
  exact ⟨⟨zz_in 360 rfl rfl, zz_in 41 rfl rfl, zz_in 357 rfl rfl, ⟨by decide, by decide, by decide +kernel⟩, by decide⟩, zz_in 358 rfl rfl, zz_in 359 rfl rfl⟩
set_option maxRecDepth 100000 in
theorem lk_RX6_132 {M : zz_MD} (h : M.1.cls = RX6 := by rfl) : zz_cS M mX1_likeButForNumbers 132 2 := by
  unfold zz_cS zz_cB
  rw [h]
  exact ⟨⟨zz_in 367 rfl rfl, zz_in 42 rfl rfl, zz_in 365 rfl rfl, ⟨by decide, by decide, by decide +kernel⟩, by decide⟩, zz_in 366 rfl rfl⟩
set_option maxRecDepth 100000 in
theorem lk_RX6_136 {M : zz_MD} (h : M.1.cls = RX6 := by rfl) : zz_cS M mX6_signFilled 136 3 := by
  unfold zz_cS zz_cB
  rw [h]
  exact ⟨⟨zz_in 370 rfl rfl, zz_in 39 rfl rfl, zz_in 368 rfl rfl, ⟨by decide, by decide, by decide +kernel⟩, by decide⟩, zz_in 369 rfl rfl⟩
set_option maxRecDepth 100000 in
theorem lk_RX6_140 {M : zz_MD} (h : M.1.cls = RX6 := by rfl) : zz_cV M mX4_placeOf 140 1 := by
  unfold zz_cV zz_cB
  rw [h]
  exact ⟨⟨zz_in 374 rfl rfl, zz_in 40 rfl rfl, zz_in 371 rfl rfl, ⟨by decide, by decide, by decide +kernel⟩, by decide⟩, zz_in 372 rfl rfl, zz_in 373 rfl rfl⟩
set_option maxRecDepth 100000 in
theorem lk_RX6_146 {M : zz_MD} (h : M.1.cls = RX6 := by rfl) : zz_cS M mX3_ofText 146 1 := by
  unfold zz_cS zz_cB
  rw [h]
  exact ⟨⟨zz_in 385 rfl rfl, zz_in 43 rfl rfl, zz_in 383 rfl rfl, ⟨by decide, by decide, by decide +kernel⟩, by decide⟩, zz_in 384 rfl rfl⟩
set_option maxRecDepth 100000 in
theorem lk_RX6_150 {M : zz_MD} (h : M.1.cls = RX6 := by rfl) : zz_cS M mX3_ofSentence 150 2 := by
  unfold zz_cS zz_cB
  rw [h]
  exact ⟨⟨zz_in 388 rfl rfl, zz_in 43 rfl rfl, zz_in 396 rfl rfl, ⟨by decide, by decide, by decide +kernel⟩, by decide⟩, zz_in 387 rfl rfl⟩
set_option maxRecDepth 100000 in
theorem lk_RX6_154 {M : zz_MD} (h : M.1.cls = RX6 := by rfl) : zz_cV M mX3_putInOrder 154 1 := by
  unfold zz_cV zz_cB
  rw [h]
  exact ⟨⟨zz_in 404 rfl rfl, zz_in 43 rfl rfl, zz_in 401 rfl rfl, ⟨by decide, by decide, by decide +kernel⟩, by decide⟩, zz_in 402 rfl rfl, zz_in 403 rfl rfl⟩
set_option maxRecDepth 100000 in
theorem lk_RX6_158 {M : zz_MD} (h : M.1.cls = RX6 := by rfl) : zz_cV M mX3_least 158 0 := by
  unfold zz_cV zz_cB
  rw [h]
  exact ⟨⟨zz_in 427 rfl rfl, zz_in 43 rfl rfl, zz_in 424 rfl rfl, ⟨by decide, by decide, by decide +kernel⟩, by decide⟩, zz_in 425 rfl rfl, zz_in 426 rfl rfl⟩
set_option maxRecDepth 100000 in
theorem lk_RX6_164 {M : zz_MD} (h : M.1.cls = RX6 := by rfl) : zz_cV M mX3_fewestPairs 164 1 := by
  unfold zz_cV zz_cB
  rw [h]
  exact ⟨⟨zz_in 435 rfl rfl, zz_in 43 rfl rfl, zz_in 432 rfl rfl, ⟨by decide, by decide, by decide +kernel⟩, by decide⟩, zz_in 433 rfl rfl, zz_in 434 rfl rfl⟩
set_option maxRecDepth 100000 in
theorem lk_RX6_167 {M : zz_MD} (h : M.1.cls = RX6 := by rfl) : zz_cS M mX6_isWord 167 1 := by
  unfold zz_cS zz_cB
  rw [h]
  exact ⟨⟨zz_in 456 rfl rfl, zz_in 39 rfl rfl, zz_in 454 rfl rfl, ⟨by decide, by decide, by decide +kernel⟩, by decide⟩, zz_in 455 rfl rfl⟩
set_option maxRecDepth 100000 in
theorem lk_RX6_173 {M : zz_MD} (h : M.1.cls = RX6 := by rfl) : zz_cS M mX5_isWrong 173 2 := by
  unfold zz_cS zz_cB
  rw [h]
  exact ⟨⟨zz_in 463 rfl rfl, zz_in 48 rfl rfl, zz_in 461 rfl rfl, ⟨by decide, by decide, by decide +kernel⟩, by decide⟩, zz_in 462 rfl rfl⟩
set_option maxRecDepth 100000 in
theorem lk_RX6_183 {M : zz_MD} (h : M.1.cls = RX6 := by rfl) : zz_cS M mX5_pairsWithBoth 183 3 := by
  unfold zz_cS zz_cB
  rw [h]
  exact ⟨⟨zz_in 476 rfl rfl, zz_in 48 rfl rfl, zz_in 474 rfl rfl, ⟨by decide, by decide, by decide +kernel⟩, by decide⟩, zz_in 475 rfl rfl⟩
set_option maxRecDepth 100000 in
theorem lk_RX6_187 {M : zz_MD} (h : M.1.cls = RX6 := by rfl) : zz_cS M mX5_pairsWithEither 187 3 := by
  unfold zz_cS zz_cB
  rw [h]
  exact ⟨⟨zz_in 486 rfl rfl, zz_in 48 rfl rfl, zz_in 484 rfl rfl, ⟨by decide, by decide, by decide +kernel⟩, by decide⟩, zz_in 485 rfl rfl⟩
set_option maxRecDepth 100000 in
theorem lk_RX6_190 {M : zz_MD} (h : M.1.cls = RX6 := by rfl) : zz_cS M mX5_lowered 190 2 := by
  unfold zz_cS zz_cB
  rw [h]
  exact ⟨⟨zz_in 489 rfl rfl, zz_in 48 rfl rfl, zz_in 487 rfl rfl, ⟨by decide, by decide, by decide +kernel⟩, by decide⟩, zz_in 488 rfl rfl⟩
set_option maxRecDepth 100000 in
theorem lk_RX6_193 {M : zz_MD} (h : M.1.cls = RX6 := by rfl) : zz_cS M mX5_goesMost 193 2 := by
  unfold zz_cS zz_cB
  rw [h]
  exact ⟨⟨zz_in 496 rfl rfl, zz_in 48 rfl rfl, zz_in 494 rfl rfl, ⟨by decide, by decide, by decide +kernel⟩, by decide⟩, zz_in 495 rfl rfl⟩
set_option maxRecDepth 100000 in
theorem lk_RX6_196 {M : zz_MD} (h : M.1.cls = RX6 := by rfl) : zz_cS M mX5_change 196 4 := by
  unfold zz_cS zz_cB
  rw [h]
  exact ⟨⟨zz_in 505 rfl rfl, zz_in 48 rfl rfl, zz_in 503 rfl rfl, ⟨by decide, by decide, by decide +kernel⟩, by decide⟩, zz_in 504 rfl rfl⟩
set_option maxRecDepth 100000 in
theorem lk_RX6_200 {M : zz_MD} (h : M.1.cls = RX6 := by rfl) : zz_cV M mX4_sameAs 200 1 := by
  unfold zz_cV zz_cB
  rw [h]
  exact ⟨⟨zz_in 330 rfl rfl, zz_in 40 rfl rfl, zz_in 518 rfl rfl, ⟨by decide, by decide, by decide +kernel⟩, by decide⟩, zz_in 328 rfl rfl, zz_in 329 rfl rfl⟩
set_option maxRecDepth 100000 in
theorem lk_RX6_210 {M : zz_MD} (h : M.1.cls = RX6 := by rfl) : zz_cV M mX0_lay 210 2 := by
  unfold zz_cV zz_cB
  rw [h]
  exact ⟨⟨zz_in 534 rfl rfl, zz_in 44 rfl rfl, zz_in 531 rfl rfl, ⟨by decide, by decide, by decide +kernel⟩, by decide⟩, zz_in 532 rfl rfl, zz_in 533 rfl rfl⟩
set_option maxRecDepth 100000 in
theorem lk_RX6_224 {M : zz_MD} (h : M.1.cls = RX6 := by rfl) : zz_cV M mX2_take 224 1 := by
  unfold zz_cV zz_cB
  rw [h]
  exact ⟨⟨zz_in 576 rfl rfl, zz_in 41 rfl rfl, zz_in 573 rfl rfl, ⟨by decide, by decide, by decide +kernel⟩, by decide⟩, zz_in 574 rfl rfl, zz_in 575 rfl rfl⟩
set_option maxRecDepth 100000 in
theorem lk_RX6_227 {M : zz_MD} (h : M.1.cls = RX6 := by rfl) : zz_cV M mX6_toldOfSettings 227 1 := by
  unfold zz_cV zz_cB
  rw [h]
  exact ⟨⟨zz_in 601 rfl rfl, zz_in 39 rfl rfl, zz_in 598 rfl rfl, ⟨by decide, by decide, by decide +kernel⟩, by decide⟩, zz_in 600 rfl rfl, zz_in 17 rfl rfl⟩
set_option maxRecDepth 100000 in
theorem lk_RX7_79 {M : zz_MD} (h : M.1.cls = RX7 := by rfl) : zz_cS M mX7_in 79 3 := by
  unfold zz_cS zz_cB
  rw [h]
  exact ⟨⟨zz_in 699 rfl rfl, zz_in 45 rfl rfl, zz_in 697 rfl rfl, ⟨by decide, by decide, by decide +kernel⟩, by decide⟩, zz_in 698 rfl rfl⟩
set_option maxRecDepth 100000 in
theorem lk_RX7_92 {M : zz_MD} (h : M.1.cls = RX7 := by rfl) : zz_cS M mX7_isNumber 92 1 := by
  unfold zz_cS zz_cB
  rw [h]
  exact ⟨⟨zz_in 714 rfl rfl, zz_in 45 rfl rfl, zz_in 712 rfl rfl, ⟨by decide, by decide, by decide +kernel⟩, by decide⟩, zz_in 713 rfl rfl⟩
set_option maxRecDepth 100000 in
theorem lk_RX7_96 {M : zz_MD} (h : M.1.cls = RX7 := by rfl) : zz_cV M mX7_faultOf 96 1 := by
  unfold zz_cV zz_cB
  rw [h]
  exact ⟨⟨zz_in 711 rfl rfl, zz_in 45 rfl rfl, zz_in 708 rfl rfl, ⟨by decide, by decide, by decide +kernel⟩, by decide⟩, zz_in 710 rfl rfl, zz_in 18 rfl rfl⟩
set_option maxRecDepth 100000 in
theorem lk_RX7_100 {M : zz_MD} (h : M.1.cls = RX7 := by rfl) : zz_cV M mX7_isPair 100 1 := by
  unfold zz_cV zz_cB
  rw [h]
  exact ⟨⟨zz_in 722 rfl rfl, zz_in 45 rfl rfl, zz_in 719 rfl rfl, ⟨by decide, by decide, by decide +kernel⟩, by decide⟩, zz_in 721 rfl rfl, zz_in 19 rfl rfl⟩
set_option maxRecDepth 100000 in
theorem lk_RX7_103 {M : zz_MD} (h : M.1.cls = RX7 := by rfl) : zz_cS M mX7_changes 103 2 := by
  unfold zz_cS zz_cB
  rw [h]
  exact ⟨⟨zz_in 745 rfl rfl, zz_in 45 rfl rfl, zz_in 743 rfl rfl, ⟨by decide, by decide, by decide +kernel⟩, by decide⟩, zz_in 744 rfl rfl⟩
set_option maxRecDepth 100000 in
theorem lk_RX7_107 {M : zz_MD} (h : M.1.cls = RX7 := by rfl) : zz_cV M mX7_isSentence 107 1 := by
  unfold zz_cV zz_cB
  rw [h]
  exact ⟨⟨zz_in 738 rfl rfl, zz_in 45 rfl rfl, zz_in 735 rfl rfl, ⟨by decide, by decide, by decide +kernel⟩, by decide⟩, zz_in 737 rfl rfl, zz_in 20 rfl rfl⟩
set_option maxRecDepth 100000 in
theorem lk_RX7_110 {M : zz_MD} (h : M.1.cls = RX7 := by rfl) : zz_cV M mX7_farOf 110 6 := by
  unfold zz_cV zz_cB
  rw [h]
  exact ⟨⟨zz_in 742 rfl rfl, zz_in 45 rfl rfl, zz_in 739 rfl rfl, ⟨by decide, by decide, by decide +kernel⟩, by decide⟩, zz_in 741 rfl rfl, zz_in 21 rfl rfl⟩
set_option maxRecDepth 100000 in
theorem lk_RX7_114 {M : zz_MD} (h : M.1.cls = RX7 := by rfl) : zz_cV M mX7_far 114 2 := by
  unfold zz_cV zz_cB
  rw [h]
  exact ⟨⟨zz_in 734 rfl rfl, zz_in 45 rfl rfl, zz_in 808 rfl rfl, ⟨by decide, by decide, by decide +kernel⟩, by decide⟩, zz_in 732 rfl rfl, zz_in 733 rfl rfl⟩
set_option maxRecDepth 100000 in
theorem lk_RX7_117 {M : zz_MD} (h : M.1.cls = RX7 := by rfl) : zz_cS M mX7_like 117 3 := by
  unfold zz_cS zz_cB
  rw [h]
  exact ⟨⟨zz_in 760 rfl rfl, zz_in 45 rfl rfl, zz_in 758 rfl rfl, ⟨by decide, by decide, by decide +kernel⟩, by decide⟩, zz_in 759 rfl rfl⟩
set_option maxRecDepth 100000 in
theorem lk_RX7_121 {M : zz_MD} (h : M.1.cls = RX7 := by rfl) : zz_cV M mX7_likePair 121 2 := by
  unfold zz_cV zz_cB
  rw [h]
  exact ⟨⟨zz_in 757 rfl rfl, zz_in 45 rfl rfl, zz_in 754 rfl rfl, ⟨by decide, by decide, by decide +kernel⟩, by decide⟩, zz_in 756 rfl rfl, zz_in 23 rfl rfl⟩
set_option maxRecDepth 100000 in
theorem lk_RX7_124 {M : zz_MD} (h : M.1.cls = RX7 := by rfl) : zz_cV M mX7_matchOf 124 2 := by
  unfold zz_cV zz_cB
  rw [h]
  exact ⟨⟨zz_in 753 rfl rfl, zz_in 45 rfl rfl, zz_in 750 rfl rfl, ⟨by decide, by decide, by decide +kernel⟩, by decide⟩, zz_in 752 rfl rfl, zz_in 22 rfl rfl⟩
set_option maxRecDepth 100000 in
theorem lk_RX7_130 {M : zz_MD} (h : M.1.cls = RX7 := by rfl) : zz_cV M mX7_foundOf 130 1 := by
  unfold zz_cV zz_cB
  rw [h]
  exact ⟨⟨zz_in 768 rfl rfl, zz_in 45 rfl rfl, zz_in 765 rfl rfl, ⟨by decide, by decide, by decide +kernel⟩, by decide⟩, zz_in 767 rfl rfl, zz_in 24 rfl rfl⟩
set_option maxRecDepth 100000 in
theorem lk_RX7_133 {M : zz_MD} (h : M.1.cls = RX7 := by rfl) : zz_cV M mX7_doesFill 133 2 := by
  unfold zz_cV zz_cB
  rw [h]
  exact ⟨⟨zz_in 776 rfl rfl, zz_in 45 rfl rfl, zz_in 773 rfl rfl, ⟨by decide, by decide, by decide +kernel⟩, by decide⟩, zz_in 775 rfl rfl, zz_in 25 rfl rfl⟩
set_option maxRecDepth 100000 in
theorem lk_RX7_137 {M : zz_MD} (h : M.1.cls = RX7 := by rfl) : zz_cS M mX7_band 137 1 := by
  unfold zz_cS zz_cB
  rw [h]
  exact ⟨⟨zz_in 791 rfl rfl, zz_in 45 rfl rfl, zz_in 789 rfl rfl, ⟨by decide, by decide, by decide +kernel⟩, by decide⟩, zz_in 790 rfl rfl⟩
set_option maxRecDepth 100000 in
theorem lk_RX7_140 {M : zz_MD} (h : M.1.cls = RX7 := by rfl) : zz_cV M mX7_priceOf 140 1 := by
  unfold zz_cV zz_cB
  rw [h]
  exact ⟨⟨zz_in 788 rfl rfl, zz_in 45 rfl rfl, zz_in 785 rfl rfl, ⟨by decide, by decide, by decide +kernel⟩, by decide⟩, zz_in 787 rfl rfl, zz_in 26 rfl rfl⟩
set_option maxRecDepth 100000 in
theorem lk_RX7_143 {M : zz_MD} (h : M.1.cls = RX7 := by rfl) : zz_cV M mX7_likeOf 143 2 := by
  unfold zz_cV zz_cB
  rw [h]
  exact ⟨⟨zz_in 807 rfl rfl, zz_in 45 rfl rfl, zz_in 804 rfl rfl, ⟨by decide, by decide, by decide +kernel⟩, by decide⟩, zz_in 806 rfl rfl, zz_in 29 rfl rfl⟩
set_option maxRecDepth 100000 in
theorem lk_RX7_146 {M : zz_MD} (h : M.1.cls = RX7 := by rfl) : zz_cV M mX7_layBeside 146 0 := by
  unfold zz_cV zz_cB
  rw [h]
  exact ⟨⟨zz_in 803 rfl rfl, zz_in 45 rfl rfl, zz_in 800 rfl rfl, ⟨by decide, by decide, by decide +kernel⟩, by decide⟩, zz_in 802 rfl rfl, zz_in 28 rfl rfl⟩
set_option maxRecDepth 100000 in
theorem lk_RX7_150 {M : zz_MD} (h : M.1.cls = RX7 := by rfl) : zz_cV M mX7_costs 150 2 := by
  unfold zz_cV zz_cB
  rw [h]
  exact ⟨⟨zz_in 813 rfl rfl, zz_in 45 rfl rfl, zz_in 810 rfl rfl, ⟨by decide, by decide, by decide +kernel⟩, by decide⟩, zz_in 812 rfl rfl, zz_in 30 rfl rfl⟩
set_option maxRecDepth 100000 in
theorem lk_RX7_153 {M : zz_MD} (h : M.1.cls = RX7 := by rfl) : zz_cV M mX7_layOrders 153 0 := by
  unfold zz_cV zz_cB
  rw [h]
  exact ⟨⟨zz_in 799 rfl rfl, zz_in 45 rfl rfl, zz_in 796 rfl rfl, ⟨by decide, by decide, by decide +kernel⟩, by decide⟩, zz_in 798 rfl rfl, zz_in 27 rfl rfl⟩
set_option maxRecDepth 100000 in
theorem lk_RX7_156 {M : zz_MD} (h : M.1.cls = RX7 := by rfl) : zz_cV M mX7_layNeeds 156 0 := by
  unfold zz_cV zz_cB
  rw [h]
  exact ⟨⟨zz_in 821 rfl rfl, zz_in 45 rfl rfl, zz_in 818 rfl rfl, ⟨by decide, by decide, by decide +kernel⟩, by decide⟩, zz_in 820 rfl rfl, zz_in 31 rfl rfl⟩
set_option maxRecDepth 100000 in
theorem lk_RX7_159 {M : zz_MD} (h : M.1.cls = RX7 := by rfl) : zz_cS M mX7_bits 159 1 := by
  unfold zz_cS zz_cB
  rw [h]
  exact ⟨⟨zz_in 824 rfl rfl, zz_in 45 rfl rfl, zz_in 822 rfl rfl, ⟨by decide, by decide, by decide +kernel⟩, by decide⟩, zz_in 823 rfl rfl⟩
set_option maxRecDepth 100000 in
theorem lk_RX7_162 {M : zz_MD} (h : M.1.cls = RX7 := by rfl) : zz_cS M mX7_isWord 162 1 := by
  unfold zz_cS zz_cB
  rw [h]
  exact ⟨⟨zz_in 831 rfl rfl, zz_in 45 rfl rfl, zz_in 829 rfl rfl, ⟨by decide, by decide, by decide +kernel⟩, by decide⟩, zz_in 830 rfl rfl⟩
set_option maxRecDepth 100000 in
theorem lk_RX7_165 {M : zz_MD} (h : M.1.cls = RX7 := by rfl) : zz_cV M mX7_inFirst 165 2 := by
  unfold zz_cV zz_cB
  rw [h]
  exact ⟨⟨zz_in 843 rfl rfl, zz_in 45 rfl rfl, zz_in 840 rfl rfl, ⟨by decide, by decide, by decide +kernel⟩, by decide⟩, zz_in 842 rfl rfl, zz_in 33 rfl rfl⟩
set_option maxRecDepth 100000 in
theorem lk_RX7_168 {M : zz_MD} (h : M.1.cls = RX7 := by rfl) : zz_cV M mX7_inSecond 168 2 := by
  unfold zz_cV zz_cB
  rw [h]
  exact ⟨⟨zz_in 847 rfl rfl, zz_in 45 rfl rfl, zz_in 844 rfl rfl, ⟨by decide, by decide, by decide +kernel⟩, by decide⟩, zz_in 846 rfl rfl, zz_in 34 rfl rfl⟩
set_option maxRecDepth 100000 in
theorem lk_RX7_171 {M : zz_MD} (h : M.1.cls = RX7 := by rfl) : zz_cV M mX7_isWrong 171 1 := by
  unfold zz_cV zz_cB
  rw [h]
  exact ⟨⟨zz_in 839 rfl rfl, zz_in 45 rfl rfl, zz_in 836 rfl rfl, ⟨by decide, by decide, by decide +kernel⟩, by decide⟩, zz_in 838 rfl rfl, zz_in 32 rfl rfl⟩
set_option maxRecDepth 100000 in
theorem lk_RX7_184 {M : zz_MD} (h : M.1.cls = RX7 := by rfl) : zz_cV M mX7_layGoes 184 2 := by
  unfold zz_cV zz_cB
  rw [h]
  exact ⟨⟨zz_in 857 rfl rfl, zz_in 45 rfl rfl, zz_in 854 rfl rfl, ⟨by decide, by decide, by decide +kernel⟩, by decide⟩, zz_in 856 rfl rfl, zz_in 35 rfl rfl⟩
set_option maxRecDepth 100000 in
theorem lk_RX7_188 {M : zz_MD} (h : M.1.cls = RX7 := by rfl) : zz_cS M mX7_areAlike 188 5 := by
  unfold zz_cS zz_cB
  rw [h]
  exact ⟨⟨zz_in 872 rfl rfl, zz_in 45 rfl rfl, zz_in 870 rfl rfl, ⟨by decide, by decide, by decide +kernel⟩, by decide⟩, zz_in 871 rfl rfl⟩
set_option maxRecDepth 100000 in
theorem lk_RX7_192 {M : zz_MD} (h : M.1.cls = RX7 := by rfl) : zz_cS M mX7_ofOne 192 1 := by
  unfold zz_cS zz_cB
  rw [h]
  exact ⟨⟨zz_in 895 rfl rfl, zz_in 45 rfl rfl, zz_in 893 rfl rfl, ⟨by decide, by decide, by decide +kernel⟩, by decide⟩, zz_in 894 rfl rfl⟩
set_option maxRecDepth 100000 in
theorem lk_RX7_195 {M : zz_MD} (h : M.1.cls = RX7 := by rfl) : zz_cS M mX7_ofOther 195 1 := by
  unfold zz_cS zz_cB
  rw [h]
  exact ⟨⟨zz_in 898 rfl rfl, zz_in 45 rfl rfl, zz_in 896 rfl rfl, ⟨by decide, by decide, by decide +kernel⟩, by decide⟩, zz_in 897 rfl rfl⟩
set_option maxRecDepth 100000 in
theorem lk_RX7_198 {M : zz_MD} (h : M.1.cls = RX7 := by rfl) : zz_cS M mX7_besides 198 1 := by
  unfold zz_cS zz_cB
  rw [h]
  exact ⟨⟨zz_in 901 rfl rfl, zz_in 45 rfl rfl, zz_in 899 rfl rfl, ⟨by decide, by decide, by decide +kernel⟩, by decide⟩, zz_in 900 rfl rfl⟩
set_option maxRecDepth 100000 in
theorem lk_RX7_201 {M : zz_MD} (h : M.1.cls = RX7 := by rfl) : zz_cV M mX7_stepCosts 201 3 := by
  unfold zz_cV zz_cB
  rw [h]
  exact ⟨⟨zz_in 892 rfl rfl, zz_in 45 rfl rfl, zz_in 889 rfl rfl, ⟨by decide, by decide, by decide +kernel⟩, by decide⟩, zz_in 891 rfl rfl, zz_in 37 rfl rfl⟩
set_option maxRecDepth 100000 in
theorem lk_RX7_204 {M : zz_MD} (h : M.1.cls = RX7 := by rfl) : zz_cV M mX7_layCosts 204 0 := by
  unfold zz_cV zz_cB
  rw [h]
  exact ⟨⟨zz_in 888 rfl rfl, zz_in 45 rfl rfl, zz_in 885 rfl rfl, ⟨by decide, by decide, by decide +kernel⟩, by decide⟩, zz_in 887 rfl rfl, zz_in 36 rfl rfl⟩
