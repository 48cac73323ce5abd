/-! ===== the cells of both objects, by program ===== -/
def zz_SH : List zz_SK := [.inl (5, [some (some 1), some (some 3), some (some 104), some (some 307), some (some 308), some (some 310), some (some 328)]),
  .inl (4, [some (some 2), none]),
  .inr (0, 30, []),
  .inl (2, [some (some 4), some (some 5), some (some 6), some (some 7), some (some 8), some (some 19), some (some 30), some (some 31), some (some 32), some (some 34), none, none]),
  .inr (3, 12, [some 36, some 40, some 44, some 48, some 52, some 56, some 60, some 64, some 68, some 72, some 76, some 80]),
  .inr (3, 12, [some 38, some 42, some 46, some 50, some 54, some 58, some 62, some 66, some 70, some 74, some 78, some 82]),
  .inr (0, 12, []),
  .inr (3, 10, [some 84, some 86, some 88, some 90, some 92, some 94, some 96, some 98, some 100, some 102]),
  .inr (5, 10, [some 9, some 10, some 11, some 12, some 13, some 14, some 15, some 16, some 17, some 18]),
  .inr (0, 12, []),
  .inr (0, 12, []),
  .inr (0, 12, []),
  .inr (0, 12, []),
  .inr (0, 12, []),
  .inr (0, 12, []),
  .inr (0, 12, []),
  .inr (0, 12, []),
  .inr (0, 12, []),
  .inr (0, 12, []),
  .inr (5, 10, [some 20, some 21, some 22, some 23, some 24, some 25, some 26, some 27, some 28, some 29]),
  .inr (0, 10, []),
  .inr (0, 10, []),
  .inr (0, 10, []),
  .inr (0, 10, []),
  .inr (0, 10, []),
  .inr (0, 10, []),
  .inr (0, 10, []),
  .inr (0, 10, []),
  .inr (0, 10, []),
  .inr (0, 10, []),
  .inr (0, 5, []),
  .inr (0, 16, []),
  .inl (4, [some (some 33), none]),
  .inr (0, 12, []),
  .inl (4, [some (some 35), none]),
  .inr (0, 12, []),
  .inl (4, [some (some 37), none]),
  .inr (0, 12, []),
  .inl (4, [some (some 39), none]),
  .inr (0, 12, []),
  .inl (4, [some (some 41), none]),
  .inr (0, 12, []),
  .inl (4, [some (some 43), none]),
  .inr (0, 12, []),
  .inl (4, [some (some 45), none]),
  .inr (0, 12, []),
  .inl (4, [some (some 47), none]),
  .inr (0, 12, []),
  .inl (4, [some (some 49), none]),
  .inr (0, 12, []),
  .inl (4, [some (some 51), none]),
  .inr (0, 12, []),
  .inl (4, [some (some 53), none]),
  .inr (0, 12, []),
  .inl (4, [some (some 55), none]),
  .inr (0, 12, []),
  .inl (4, [some (some 57), none]),
  .inr (0, 12, []),
  .inl (4, [some (some 59), none]),
  .inr (0, 12, []),
  .inl (4, [some (some 61), none]),
  .inr (0, 12, []),
  .inl (4, [some (some 63), none]),
  .inr (0, 12, []),
  .inl (4, [some (some 65), none]),
  .inr (0, 12, []),
  .inl (4, [some (some 67), none]),
  .inr (0, 12, []),
  .inl (4, [some (some 69), none]),
  .inr (0, 12, []),
  .inl (4, [some (some 71), none]),
  .inr (0, 12, []),
  .inl (4, [some (some 73), none]),
  .inr (0, 12, []),
  .inl (4, [some (some 75), none]),
  .inr (0, 12, []),
  .inl (4, [some (some 77), none]),
  .inr (0, 12, []),
  .inl (4, [some (some 79), none]),
  .inr (0, 12, []),
  .inl (4, [some (some 81), none]),
  .inr (0, 12, []),
  .inl (4, [some (some 83), none]),
  .inr (0, 12, []),
  .inl (4, [some (some 85), none]),
  .inr (0, 12, []),
  .inl (4, [some (some 87), none]),
  .inr (0, 12, []),
  .inl (4, [some (some 89), none]),
  .inr (0, 12, []),
  .inl (4, [some (some 91), none]),
  .inr (0, 12, []),
  .inl (4, [some (some 93), none]),
  .inr (0, 12, []),
  .inl (4, [some (some 95), none]),
  .inr (0, 12, []),
  .inl (4, [some (some 97), none]),
  .inr (0, 12, []),
  .inl (4, [some (some 99), none]),
  .inr (0, 12, []),
  .inl (4, [some (some 101), none]),
  .inr (0, 12, []),
  .inl (4, [some (some 103), none]),
  .inr (0, 12, []),
  .inr (4, 2, [some 105, some 206]),
  .inl (2, [some (some 106), some (some 107), some (some 108), some (some 109), some (some 110), some (some 121), some (some 132), some (some 133), some (some 134), some (some 136), none, none]),
  .inr (3, 12, [some 138, some 142, some 146, some 150, some 154, some 158, some 162, some 166, some 170, some 174, some 178, some 182]),
  .inr (3, 12, [some 140, some 144, some 148, some 152, some 156, some 160, some 164, some 168, some 172, some 176, some 180, some 184]),
  .inr (0, 12, []),
  .inr (3, 10, [some 186, some 188, some 190, some 192, some 194, some 196, some 198, some 200, some 202, some 204]),
  .inr (5, 10, [some 111, some 112, some 113, some 114, some 115, some 116, some 117, some 118, some 119, some 120]),
  .inr (0, 12, []),
  .inr (0, 12, []),
  .inr (0, 12, []),
  .inr (0, 12, []),
  .inr (0, 12, []),
  .inr (0, 12, []),
  .inr (0, 12, []),
  .inr (0, 12, []),
  .inr (0, 12, []),
  .inr (0, 12, []),
  .inr (5, 10, [some 122, some 123, some 124, some 125, some 126, some 127, some 128, some 129, some 130, some 131]),
  .inr (0, 10, []),
  .inr (0, 10, []),
  .inr (0, 10, []),
  .inr (0, 10, []),
  .inr (0, 10, []),
  .inr (0, 10, []),
  .inr (0, 10, []),
  .inr (0, 10, []),
  .inr (0, 10, []),
  .inr (0, 10, []),
  .inr (0, 5, []),
  .inr (0, 16, []),
  .inl (4, [some (some 135), none]),
  .inr (0, 12, []),
  .inl (4, [some (some 137), none]),
  .inr (0, 12, []),
  .inl (4, [some (some 139), none]),
  .inr (0, 12, []),
  .inl (4, [some (some 141), none]),
  .inr (0, 12, []),
  .inl (4, [some (some 143), none]),
  .inr (0, 12, []),
  .inl (4, [some (some 145), none]),
  .inr (0, 12, []),
  .inl (4, [some (some 147), none]),
  .inr (0, 12, []),
  .inl (4, [some (some 149), none]),
  .inr (0, 12, []),
  .inl (4, [some (some 151), none]),
  .inr (0, 12, []),
  .inl (4, [some (some 153), none]),
  .inr (0, 12, []),
  .inl (4, [some (some 155), none]),
  .inr (0, 12, []),
  .inl (4, [some (some 157), none]),
  .inr (0, 12, []),
  .inl (4, [some (some 159), none]),
  .inr (0, 12, []),
  .inl (4, [some (some 161), none]),
  .inr (0, 12, []),
  .inl (4, [some (some 163), none]),
  .inr (0, 12, []),
  .inl (4, [some (some 165), none]),
  .inr (0, 12, []),
  .inl (4, [some (some 167), none]),
  .inr (0, 12, []),
  .inl (4, [some (some 169), none]),
  .inr (0, 12, []),
  .inl (4, [some (some 171), none]),
  .inr (0, 12, []),
  .inl (4, [some (some 173), none]),
  .inr (0, 12, []),
  .inl (4, [some (some 175), none]),
  .inr (0, 12, []),
  .inl (4, [some (some 177), none]),
  .inr (0, 12, []),
  .inl (4, [some (some 179), none]),
  .inr (0, 12, []),
  .inl (4, [some (some 181), none]),
  .inr (0, 12, []),
  .inl (4, [some (some 183), none]),
  .inr (0, 12, []),
  .inl (4, [some (some 185), none]),
  .inr (0, 12, []),
  .inl (4, [some (some 187), none]),
  .inr (0, 12, []),
  .inl (4, [some (some 189), none]),
  .inr (0, 12, []),
  .inl (4, [some (some 191), none]),
  .inr (0, 12, []),
  .inl (4, [some (some 193), none]),
  .inr (0, 12, []),
  .inl (4, [some (some 195), none]),
  .inr (0, 12, []),
  .inl (4, [some (some 197), none]),
  .inr (0, 12, []),
  .inl (4, [some (some 199), none]),
  .inr (0, 12, []),
  .inl (4, [some (some 201), none]),
  .inr (0, 12, []),
  .inl (4, [some (some 203), none]),
  .inr (0, 12, []),
  .inl (4, [some (some 205), none]),
  .inr (0, 12, []),
  .inl (2, [some (some 207), some (some 208), some (some 209), some (some 210), some (some 211), some (some 222), some (some 233), some (some 234), some (some 235), some (some 237), none, none]),
  .inr (3, 12, [some 239, some 243, some 247, some 251, some 255, some 259, some 263, some 267, some 271, some 275, some 279, some 283]),
  .inr (3, 12, [some 241, some 245, some 249, some 253, some 257, some 261, some 265, some 269, some 273, some 277, some 281, some 285]),
  .inr (0, 12, []),
  .inr (3, 10, [some 287, some 289, some 291, some 293, some 295, some 297, some 299, some 301, some 303, some 305]),
  .inr (5, 10, [some 212, some 213, some 214, some 215, some 216, some 217, some 218, some 219, some 220, some 221]),
  .inr (0, 12, []),
  .inr (0, 12, []),
  .inr (0, 12, []),
  .inr (0, 12, []),
  .inr (0, 12, []),
  .inr (0, 12, []),
  .inr (0, 12, []),
  .inr (0, 12, []),
  .inr (0, 12, []),
  .inr (0, 12, []),
  .inr (5, 10, [some 223, some 224, some 225, some 226, some 227, some 228, some 229, some 230, some 231, some 232]),
  .inr (0, 10, []),
  .inr (0, 10, []),
  .inr (0, 10, []),
  .inr (0, 10, []),
  .inr (0, 10, []),
  .inr (0, 10, []),
  .inr (0, 10, []),
  .inr (0, 10, []),
  .inr (0, 10, []),
  .inr (0, 10, []),
  .inr (0, 5, []),
  .inr (0, 16, []),
  .inl (4, [some (some 236), none]),
  .inr (0, 12, []),
  .inl (4, [some (some 238), none]),
  .inr (0, 12, []),
  .inl (4, [some (some 240), none]),
  .inr (0, 12, []),
  .inl (4, [some (some 242), none]),
  .inr (0, 12, []),
  .inl (4, [some (some 244), none]),
  .inr (0, 12, []),
  .inl (4, [some (some 246), none]),
  .inr (0, 12, []),
  .inl (4, [some (some 248), none]),
  .inr (0, 12, []),
  .inl (4, [some (some 250), none]),
  .inr (0, 12, []),
  .inl (4, [some (some 252), none]),
  .inr (0, 12, []),
  .inl (4, [some (some 254), none]),
  .inr (0, 12, []),
  .inl (4, [some (some 256), none]),
  .inr (0, 12, []),
  .inl (4, [some (some 258), none]),
  .inr (0, 12, []),
  .inl (4, [some (some 260), none]),
  .inr (0, 12, []),
  .inl (4, [some (some 262), none]),
  .inr (0, 12, []),
  .inl (4, [some (some 264), none]),
  .inr (0, 12, []),
  .inl (4, [some (some 266), none]),
  .inr (0, 12, []),
  .inl (4, [some (some 268), none]),
  .inr (0, 12, []),
  .inl (4, [some (some 270), none]),
  .inr (0, 12, []),
  .inl (4, [some (some 272), none]),
  .inr (0, 12, []),
  .inl (4, [some (some 274), none]),
  .inr (0, 12, []),
  .inl (4, [some (some 276), none]),
  .inr (0, 12, []),
  .inl (4, [some (some 278), none]),
  .inr (0, 12, []),
  .inl (4, [some (some 280), none]),
  .inr (0, 12, []),
  .inl (4, [some (some 282), none]),
  .inr (0, 12, []),
  .inl (4, [some (some 284), none]),
  .inr (0, 12, []),
  .inl (4, [some (some 286), none]),
  .inr (0, 12, []),
  .inl (4, [some (some 288), none]),
  .inr (0, 12, []),
  .inl (4, [some (some 290), none]),
  .inr (0, 12, []),
  .inl (4, [some (some 292), none]),
  .inr (0, 12, []),
  .inl (4, [some (some 294), none]),
  .inr (0, 12, []),
  .inl (4, [some (some 296), none]),
  .inr (0, 12, []),
  .inl (4, [some (some 298), none]),
  .inr (0, 12, []),
  .inl (4, [some (some 300), none]),
  .inr (0, 12, []),
  .inl (4, [some (some 302), none]),
  .inr (0, 12, []),
  .inl (4, [some (some 304), none]),
  .inr (0, 12, []),
  .inl (4, [some (some 306), none]),
  .inr (0, 12, []),
  .inr (2, 2, []),
  .inl (1, [some (some 309)]),
  .inr (0, 13, []),
  .inl (3, [some (some 311), some (some 312), some (some 323), some (some 324), some (some 325), some (some 326)]),
  .inr (0, 10, []),
  .inr (5, 10, [some 313, some 314, some 315, some 316, some 317, some 318, some 319, some 320, some 321, some 322]),
  .inr (0, 5, []),
  .inr (0, 5, []),
  .inr (0, 5, []),
  .inr (0, 5, []),
  .inr (0, 5, []),
  .inr (0, 5, []),
  .inr (0, 5, []),
  .inr (0, 5, []),
  .inr (0, 5, []),
  .inr (0, 5, []),
  .inr (0, 1024, []),
  .inr (0, 1024, []),
  .inr (0, 10, []),
  .inl (4, [some (some 327), none]),
  .inr (0, 10, []),
  .inl (0, [some (some 329), some (some 343), some (some 357)]),
  .inr (5, 13, [some 330, some 331, some 332, some 333, some 334, some 335, some 336, some 337, some 338, some 339, some 340, some 341, some 342]),
  .inr (0, 13, []),
  .inr (0, 13, []),
  .inr (0, 13, []),
  .inr (0, 13, []),
  .inr (0, 13, []),
  .inr (0, 13, []),
  .inr (0, 13, []),
  .inr (0, 13, []),
  .inr (0, 13, []),
  .inr (0, 13, []),
  .inr (0, 13, []),
  .inr (0, 13, []),
  .inr (0, 13, []),
  .inr (6, 13, [some 344, some 345, some 346, some 347, some 348, some 349, some 350, some 351, some 352, some 353, some 354, some 355, some 356]),
  .inr (1, 13, []),
  .inr (1, 13, []),
  .inr (1, 13, []),
  .inr (1, 13, []),
  .inr (1, 13, []),
  .inr (1, 13, []),
  .inr (1, 13, []),
  .inr (1, 13, []),
  .inr (1, 13, []),
  .inr (1, 13, []),
  .inr (1, 13, []),
  .inr (1, 13, []),
  .inr (1, 13, []),
  .inl (4, [some (some 358), none]),
  .inr (0, 24, []),
  .inl (6, [none, some (some 360), none, some (some 361), some (some 362), some (some 363), some (some 364), some (some 365), none, some (some 366), some (some 367), some (some 368), some (some 369), some (some 370), some (some 371), none, some (some 372), none, some (some 373), some (some 374), some (some 375), some (some 376), none, none, some (some 377), some (some 378), some (some 379), some (some 380)]),
  .inr (0, 30, []),
  .inr (0, 12, []),
  .inr (0, 12, []),
  .inr (0, 12, []),
  .inr (0, 144, []),
  .inr (0, 144, []),
  .inr (0, 10, []),
  .inr (0, 120, []),
  .inr (0, 5, []),
  .inr (0, 16, []),
  .inr (0, 2, []),
  .inr (0, 24, []),
  .inr (0, 13, []),
  .inr (0, 10, []),
  .inr (0, 100, []),
  .inr (0, 1024, []),
  .inr (0, 10, []),
  .inr (0, 169, []),
  .inr (1, 169, []),
  .inr (0, 1040, []),
  .inr (2, 2, [])]
theorem zz_SH_len : zz_SH.length = 381 := by decide +kernel
def mL_law : zz_MD := (x, code, 4, some .boolean, 8)
theorem lk_RL_13 {M : zz_MD} (h : M.1.cls = RL := by rfl) : zz_cV M mX6_say 13 1 := by
  unfold zz_cV zz_cB
  rw [h]
  decide +kernel
theorem lk_RL_17 {M : zz_MD} (h : M.1.cls = RL := by rfl) : zz_cV M mX7_say 17 1 := by
  unfold zz_cV zz_cB
  rw [h]
  decide +kernel
theorem lk_RL_18 {M : zz_MD} (h : M.1.cls = RL := by rfl) : zz_cV M mX6_wipe 18 0 := by
  unfold zz_cV zz_cB
  rw [h]
  decide +kernel
theorem lk_RL_22 {M : zz_MD} (h : M.1.cls = RL := by rfl) : zz_cV M mX7_wipe 22 0 := by
  unfold zz_cV zz_cB
  rw [h]
  decide +kernel
theorem lk_RL_23 {M : zz_MD} (h : M.1.cls = RL := by rfl) : zz_cV M mX6_fault 23 1 := by
  unfold zz_cV zz_cB
  rw [h]
  decide +kernel
theorem lk_RL_26 {M : zz_MD} (h : M.1.cls = RL := by rfl) : zz_cV M mX7_fault 26 1 := by
  unfold zz_cV zz_cB
  rw [h]
  decide +kernel
theorem lk_RL_27 {M : zz_MD} (h : M.1.cls = RL := by rfl) : zz_cV M mX6_keep 27 1 := by
  unfold zz_cV zz_cB
  rw [h]
  decide +kernel
theorem lk_RL_30 {M : zz_MD} (h : M.1.cls = RL := by rfl) : zz_cV M mX7_keep 30 1 := by
  unfold zz_cV zz_cB
  rw [h]
  decide +kernel
theorem lk_RL_31 {M : zz_MD} (h : M.1.cls = RL := by rfl) : zz_cV M mX6_write 31 0 := by
  unfold zz_cV zz_cB
  rw [h]
  decide +kernel
theorem lk_RL_34 {M : zz_MD} (h : M.1.cls = RL := by rfl) : zz_cV M mX7_write 34 0 := by
  unfold zz_cV zz_cB
  rw [h]
  decide +kernel
theorem lk_RL_35 {M : zz_MD} (h : M.1.cls = RL := by rfl) : zz_cV M mX6_pair 35 2 := by
  unfold zz_cV zz_cB
  rw [h]
  decide +kernel
theorem lk_RL_39 {M : zz_MD} (h : M.1.cls = RL := by rfl) : zz_cV M mX7_pair 39 2 := by
  unfold zz_cV zz_cB
  rw [h]
  decide +kernel
theorem lk_RL_40 {M : zz_MD} (h : M.1.cls = RL := by rfl) : zz_cV M mX6_far 40 2 := by
  unfold zz_cV zz_cB
  rw [h]
  decide +kernel
theorem lk_RL_43 {M : zz_MD} (h : M.1.cls = RL := by rfl) : zz_cV M mX7_far 43 2 := by
  unfold zz_cV zz_cB
  rw [h]
  decide +kernel
theorem lk_RL_44 {M : zz_MD} (h : M.1.cls = RL := by rfl) : zz_cV M mX6_match 44 2 := by
  unfold zz_cV zz_cB
  rw [h]
  decide +kernel
theorem lk_RL_47 {M : zz_MD} (h : M.1.cls = RL := by rfl) : zz_cV M mX7_match 47 2 := by
  unfold zz_cV zz_cB
  rw [h]
  decide +kernel
theorem lk_RL_48 {M : zz_MD} (h : M.1.cls = RL := by rfl) : zz_cV M mX6_found 48 2 := by
  unfold zz_cV zz_cB
  rw [h]
  decide +kernel
theorem lk_RL_51 {M : zz_MD} (h : M.1.cls = RL := by rfl) : zz_cV M mX7_found 51 2 := by
  unfold zz_cV zz_cB
  rw [h]
  decide +kernel
theorem lk_RL_52 {M : zz_MD} (h : M.1.cls = RL := by rfl) : zz_cV M mX6_filled 52 2 := by
  unfold zz_cV zz_cB
  rw [h]
  decide +kernel
theorem lk_RL_55 {M : zz_MD} (h : M.1.cls = RL := by rfl) : zz_cV M mX7_filled 55 2 := by
  unfold zz_cV zz_cB
  rw [h]
  decide +kernel
theorem lk_RL_56 {M : zz_MD} (h : M.1.cls = RL := by rfl) : zz_cV M mX6_rate 56 2 := by
  unfold zz_cV zz_cB
  rw [h]
  decide +kernel
theorem lk_RL_59 {M : zz_MD} (h : M.1.cls = RL := by rfl) : zz_cV M mX7_rate 59 2 := by
  unfold zz_cV zz_cB
  rw [h]
  decide +kernel
theorem lk_RL_60 {M : zz_MD} (h : M.1.cls = RL := by rfl) : zz_cV M mX6_price 60 1 := by
  unfold zz_cV zz_cB
  rw [h]
  decide +kernel
theorem lk_RL_63 {M : zz_MD} (h : M.1.cls = RL := by rfl) : zz_cV M mX7_price 63 1 := by
  unfold zz_cV zz_cB
  rw [h]
  decide +kernel
theorem lk_RL_64 {M : zz_MD} (h : M.1.cls = RL := by rfl) : zz_cV M mX6_order 64 1 := by
  unfold zz_cV zz_cB
  rw [h]
  decide +kernel
theorem lk_RL_67 {M : zz_MD} (h : M.1.cls = RL := by rfl) : zz_cV M mX7_order 67 1 := by
  unfold zz_cV zz_cB
  rw [h]
  decide +kernel
theorem lk_RL_68 {M : zz_MD} (h : M.1.cls = RL := by rfl) : zz_cV M mX6_kept 68 0 := by
  unfold zz_cV zz_cB
  rw [h]
  decide +kernel
theorem lk_RL_71 {M : zz_MD} (h : M.1.cls = RL := by rfl) : zz_cV M mX7_kept 71 0 := by
  unfold zz_cV zz_cB
  rw [h]
  decide +kernel
theorem lk_RL_72 {M : zz_MD} (h : M.1.cls = RL := by rfl) : zz_cV M mX6_must 72 2 := by
  unfold zz_cV zz_cB
  rw [h]
  decide +kernel
theorem lk_RL_75 {M : zz_MD} (h : M.1.cls = RL := by rfl) : zz_cV M mX7_must 75 2 := by
  unfold zz_cV zz_cB
  rw [h]
  decide +kernel
theorem lk_RL_76 {M : zz_MD} (h : M.1.cls = RL := by rfl) : zz_cV M mX6_wrongs 76 0 := by
  unfold zz_cV zz_cB
  rw [h]
  decide +kernel
theorem lk_RL_79 {M : zz_MD} (h : M.1.cls = RL := by rfl) : zz_cV M mX7_wrongs 79 0 := by
  unfold zz_cV zz_cB
  rw [h]
  decide +kernel
theorem lk_RL_80 {M : zz_MD} (h : M.1.cls = RL := by rfl) : zz_cV M mX6_goes 80 3 := by
  unfold zz_cV zz_cB
  rw [h]
  decide +kernel
theorem lk_RL_84 {M : zz_MD} (h : M.1.cls = RL := by rfl) : zz_cV M mX7_goes 84 3 := by
  unfold zz_cV zz_cB
  rw [h]
  decide +kernel
theorem lk_RL_85 {M : zz_MD} (h : M.1.cls = RL := by rfl) : zz_cV M mX6_learnt 85 1 := by
  unfold zz_cV zz_cB
  rw [h]
  decide +kernel
theorem lk_RL_88 {M : zz_MD} (h : M.1.cls = RL := by rfl) : zz_cV M mX7_learnt 88 1 := by
  unfold zz_cV zz_cB
  rw [h]
  decide +kernel
theorem lk_RL_89 {M : zz_MD} (h : M.1.cls = RL := by rfl) : zz_cV M mX6_otherwise 89 3 := by
  unfold zz_cV zz_cB
  rw [h]
  decide +kernel
theorem lk_RL_93 {M : zz_MD} (h : M.1.cls = RL := by rfl) : zz_cV M mX7_otherwise 93 3 := by
  unfold zz_cV zz_cB
  rw [h]
  decide +kernel
theorem lk_RL_94 {M : zz_MD} (h : M.1.cls = RL := by rfl) : zz_cV M mX6_clash 94 0 := by
  unfold zz_cV zz_cB
  rw [h]
  decide +kernel
theorem lk_RL_97 {M : zz_MD} (h : M.1.cls = RL := by rfl) : zz_cV M mX7_clash 97 0 := by
  unfold zz_cV zz_cB
  rw [h]
  decide +kernel
theorem lk_RL_98 {M : zz_MD} (h : M.1.cls = RL := by rfl) : zz_cV M mX6_length 98 2 := by
  unfold zz_cV zz_cB
  rw [h]
  decide +kernel
theorem lk_RL_101 {M : zz_MD} (h : M.1.cls = RL := by rfl) : zz_cV M mX7_length 101 2 := by
  unfold zz_cV zz_cB
  rw [h]
  decide +kernel
theorem lk_RL_102 {M : zz_MD} (h : M.1.cls = RL := by rfl) : zz_cV M mX6_lengths 102 0 := by
  unfold zz_cV zz_cB
  rw [h]
  decide +kernel
theorem lk_RL_105 {M : zz_MD} (h : M.1.cls = RL := by rfl) : zz_cV M mX7_lengths 105 0 := by
  unfold zz_cV zz_cB
  rw [h]
  decide +kernel
theorem lk_RL_106 {M : zz_MD} (h : M.1.cls = RL := by rfl) : zz_cV M mX6_laid 106 1 := by
  unfold zz_cV zz_cB
  rw [h]
  decide +kernel
theorem lk_RL_110 {M : zz_MD} (h : M.1.cls = RL := by rfl) : zz_cV M mX7_laid 110 1 := by
  unfold zz_cV zz_cB
  rw [h]
  decide +kernel
theorem lk_RL_111 {M : zz_MD} (h : M.1.cls = RL := by rfl) : zz_cV M mX6_image 111 1 := by
  unfold zz_cV zz_cB
  rw [h]
  decide +kernel
theorem lk_RL_114 {M : zz_MD} (h : M.1.cls = RL := by rfl) : zz_cV M mX7_image 114 1 := by
  unfold zz_cV zz_cB
  rw [h]
  decide +kernel
theorem lk_RL_115 {M : zz_MD} (h : M.1.cls = RL := by rfl) : zz_cV M mX6_restore 115 1 := by
  unfold zz_cV zz_cB
  rw [h]
  decide +kernel
theorem lk_RL_118 {M : zz_MD} (h : M.1.cls = RL := by rfl) : zz_cV M mX7_restore 118 1 := by
  unfold zz_cV zz_cB
  rw [h]
  decide +kernel
theorem lk_RL_119 {M : zz_MD} (h : M.1.cls = RL := by rfl) : zz_cV M mX6_told 119 1 := by
  unfold zz_cV zz_cB
  rw [h]
  decide +kernel
theorem lk_RL_122 {M : zz_MD} (h : M.1.cls = RL := by rfl) : zz_cV M mX7_told 122 1 := by
  unfold zz_cV zz_cB
  rw [h]
  decide +kernel
theorem lk_RX0_34 {M : zz_MD} (h : M.1.cls = RX0 := by rfl) : zz_cV M mX0_layFrom 34 4 := by
  unfold zz_cV zz_cB
  rw [h]
  decide +kernel
theorem lk_RX0_38 {M : zz_MD} (h : M.1.cls = RX0 := by rfl) : zz_cV M mX0_readSteps 38 2 := by
  unfold zz_cV zz_cB
  rw [h]
  decide +kernel
theorem lk_RX0_45 {M : zz_MD} (h : M.1.cls = RX0 := by rfl) : zz_cS M mX0_fits 45 5 := by
  unfold zz_cS zz_cB
  rw [h]
  decide +kernel
theorem lk_RX0_49 {M : zz_MD} (h : M.1.cls = RX0 := by rfl) : zz_cV M mX0_costWith 49 5 := by
  unfold zz_cV zz_cB
  rw [h]
  decide +kernel
theorem lk_RX0_60 {M : zz_MD} (h : M.1.cls = RX0 := by rfl) : zz_cS M mX0_together 60 3 := by
  unfold zz_cS zz_cB
  rw [h]
  decide +kernel
theorem lk_RX0_73 {M : zz_MD} (h : M.1.cls = RX0 := by rfl) : zz_cV M mX4_at 73 1 := by
  unfold zz_cV zz_cB
  rw [h]
  decide +kernel
theorem lk_RX0_76 {M : zz_MD} (h : M.1.cls = RX0 := by rfl) : zz_cV M mX0_firstOfLeast 76 4 := by
  unfold zz_cV zz_cB
  rw [h]
  decide +kernel
theorem lk_RX0_80 {M : zz_MD} (h : M.1.cls = RX0 := by rfl) : zz_cV M mX4_add 80 1 := by
  unfold zz_cV zz_cB
  rw [h]
  decide +kernel
theorem lk_RX1_27 {M : zz_MD} (h : M.1.cls = RX1 := by rfl) : zz_cV M mX4_at 27 1 := by
  unfold zz_cV zz_cB
  rw [h]
  decide +kernel
theorem lk_RX1_31 {M : zz_MD} (h : M.1.cls = RX1 := by rfl) : zz_cS M mX1_costOfChange 31 2 := by
  unfold zz_cS zz_cB
  rw [h]
  decide +kernel
theorem lk_RX1_41 {M : zz_MD} (h : M.1.cls = RX1 := by rfl) : zz_cV M mX1_farOf 41 2 := by
  unfold zz_cV zz_cB
  rw [h]
  decide +kernel
theorem lk_RX1_54 {M : zz_MD} (h : M.1.cls = RX1 := by rfl) : zz_cV M mX1_likeOf 54 2 := by
  unfold zz_cV zz_cB
  rw [h]
  decide +kernel
theorem lk_RX1_57 {M : zz_MD} (h : M.1.cls = RX1 := by rfl) : zz_cV M mX2_standsAsBefore 57 2 := by
  unfold zz_cV zz_cB
  rw [h]
  decide +kernel
theorem lk_RX1_68 {M : zz_MD} (h : M.1.cls = RX1 := by rfl) : zz_cV M mX1_matchOf 68 3 := by
  unfold zz_cV zz_cB
  rw [h]
  decide +kernel
theorem lk_RX2_58 {M : zz_MD} (h : M.1.cls = RX2 := by rfl) : zz_cV M mX2_isSentence 58 1 := by
  unfold zz_cV zz_cB
  rw [h]
  decide +kernel
theorem lk_RX2_62 {M : zz_MD} (h : M.1.cls = RX2 := by rfl) : zz_cV M mX2_isPair 62 1 := by
  unfold zz_cV zz_cB
  rw [h]
  decide +kernel
theorem lk_RX2_65 {M : zz_MD} (h : M.1.cls = RX2 := by rfl) : zz_cV M mX4_sameAs 65 1 := by
  unfold zz_cV zz_cB
  rw [h]
  decide +kernel
theorem lk_RX2_69 {M : zz_MD} (h : M.1.cls = RX2 := by rfl) : zz_cV M mX2_takePairs 69 1 := by
  unfold zz_cV zz_cB
  rw [h]
  decide +kernel
theorem lk_RX2_73 {M : zz_MD} (h : M.1.cls = RX2 := by rfl) : zz_cV M mX2_takeText 73 1 := by
  unfold zz_cV zz_cB
  rw [h]
  decide +kernel
theorem lk_RX2_76 {M : zz_MD} (h : M.1.cls = RX2 := by rfl) : zz_cV M mX4_take 76 1 := by
  unfold zz_cV zz_cB
  rw [h]
  decide +kernel
theorem lk_RX3_40 {M : zz_MD} (h : M.1.cls = RX3 := by rfl) : zz_cV M mX2_bestFor 40 1 := by
  unfold zz_cV zz_cB
  rw [h]
  decide +kernel
theorem lk_RX3_49 {M : zz_MD} (h : M.1.cls = RX3 := by rfl) : zz_cS M mX3_bandOf 49 1 := by
  unfold zz_cS zz_cB
  rw [h]
  decide +kernel
theorem lk_RX3_52 {M : zz_MD} (h : M.1.cls = RX3 := by rfl) : zz_cS M mX3_bandFound 52 2 := by
  unfold zz_cS zz_cB
  rw [h]
  decide +kernel
theorem lk_RX3_70 {M : zz_MD} (h : M.1.cls = RX3 := by rfl) : zz_cS M mX3_ofSentence 70 2 := by
  unfold zz_cS zz_cB
  rw [h]
  decide +kernel
theorem lk_RX3_73 {M : zz_MD} (h : M.1.cls = RX3 := by rfl) : zz_cV M mX3_readRatesByMemory 73 1 := by
  unfold zz_cV zz_cB
  rw [h]
  decide +kernel
theorem lk_RX3_77 {M : zz_MD} (h : M.1.cls = RX3 := by rfl) : zz_cV M mX3_readHelpers 77 1 := by
  unfold zz_cV zz_cB
  rw [h]
  decide +kernel
theorem lk_RX3_80 {M : zz_MD} (h : M.1.cls = RX3 := by rfl) : zz_cV M mX3_chooseNext 80 2 := by
  unfold zz_cV zz_cB
  rw [h]
  decide +kernel
theorem lk_RX3_84 {M : zz_MD} (h : M.1.cls = RX3 := by rfl) : zz_cV M mX4_add 84 1 := by
  unfold zz_cV zz_cB
  rw [h]
  decide +kernel
theorem lk_RX3_103 {M : zz_MD} (h : M.1.cls = RX3 := by rfl) : zz_cV M mX3_priceWith 103 3 := by
  unfold zz_cV zz_cB
  rw [h]
  decide +kernel
theorem lk_RX3_107 {M : zz_MD} (h : M.1.cls = RX3 := by rfl) : zz_cV M mX3_readNeeded 107 1 := by
  unfold zz_cV zz_cB
  rw [h]
  decide +kernel
theorem lk_RX3_110 {M : zz_MD} (h : M.1.cls = RX3 := by rfl) : zz_cS M mJ6_bitCount_0f7a4 110 1 := by
  unfold zz_cS zz_cB
  rw [h]
  decide +kernel
theorem lk_RX3_113 {M : zz_MD} (h : M.1.cls = RX3 := by rfl) : zz_cV M mX3_isEnough 113 2 := by
  unfold zz_cV zz_cB
  rw [h]
  decide +kernel
theorem lk_RX4_19 {M : zz_MD} (h : M.1.cls = RX4 := by rfl) : zz_cV M mX4_at 19 1 := by
  unfold zz_cV zz_cB
  rw [h]
  decide +kernel
theorem lk_RX4_23 {M : zz_MD} (h : M.1.cls = RX4 := by rfl) : zz_cV M mX4_add 23 1 := by
  unfold zz_cV zz_cB
  rw [h]
  decide +kernel
theorem lk_RX4_27 {M : zz_MD} (h : M.1.cls = RX4 := by rfl) : zz_cV M mX4_takePart 27 3 := by
  unfold zz_cV zz_cB
  rw [h]
  decide +kernel
theorem lk_RX5_19 {M : zz_MD} (h : M.1.cls = RX5 := by rfl) : zz_cV M mX4_timesOf 19 1 := by
  unfold zz_cV zz_cB
  rw [h]
  decide +kernel
theorem lk_RX5_28 {M : zz_MD} (h : M.1.cls = RX5 := by rfl) : zz_cV M mX4_placeOf 28 1 := by
  unfold zz_cV zz_cB
  rw [h]
  decide +kernel
theorem lk_RX5_35 {M : zz_MD} (h : M.1.cls = RX5 := by rfl) : zz_cS M mX5_inFirst 35 3 := by
  unfold zz_cS zz_cB
  rw [h]
  decide +kernel
theorem lk_RX5_41 {M : zz_MD} (h : M.1.cls = RX5 := by rfl) : zz_cS M mX5_inSecond 41 3 := by
  unfold zz_cS zz_cB
  rw [h]
  decide +kernel
theorem lk_RX5_44 {M : zz_MD} (h : M.1.cls = RX5 := by rfl) : zz_cS M mX5_pairsWithBoth 44 3 := by
  unfold zz_cS zz_cB
  rw [h]
  decide +kernel
theorem lk_RX5_48 {M : zz_MD} (h : M.1.cls = RX5 := by rfl) : zz_cS M mX5_pairsWithEither 48 3 := by
  unfold zz_cS zz_cB
  rw [h]
  decide +kernel
theorem lk_RX5_51 {M : zz_MD} (h : M.1.cls = RX5 := by rfl) : zz_cS M mX5_changeIn 51 3 := by
  unfold zz_cS zz_cB
  rw [h]
  decide +kernel
theorem lk_RX5_58 {M : zz_MD} (h : M.1.cls = RX5 := by rfl) : zz_cV M mX4_at 58 1 := by
  unfold zz_cV zz_cB
  rw [h]
  decide +kernel
theorem lk_RX5_61 {M : zz_MD} (h : M.1.cls = RX5 := by rfl) : zz_cV M mX4_put 61 2 := by
  unfold zz_cV zz_cB
  rw [h]
  decide +kernel
theorem lk_RX6_54 {M : zz_MD} (h : M.1.cls = RX6 := by rfl) : zz_cV M mX4_add 54 1 := by
  unfold zz_cV zz_cB
  rw [h]
  decide +kernel
theorem lk_RX6_62 {M : zz_MD} (h : M.1.cls = RX6 := by rfl) : zz_cV M mX6_faultAsSentence 62 0 := by
  unfold zz_cV zz_cB
  rw [h]
  decide +kernel
theorem lk_RX6_66 {M : zz_MD} (h : M.1.cls = RX6 := by rfl) : zz_cV M mX6_faultAsPair 66 0 := by
  unfold zz_cV zz_cB
  rw [h]
  decide +kernel
theorem lk_RX6_69 {M : zz_MD} (h : M.1.cls = RX6 := by rfl) : zz_cV M mX2_isPair 69 1 := by
  unfold zz_cV zz_cB
  rw [h]
  decide +kernel
theorem lk_RX6_75 {M : zz_MD} (h : M.1.cls = RX6 := by rfl) : zz_cV M mX6_endOfTongue 75 2 := by
  unfold zz_cV zz_cB
  rw [h]
  decide +kernel
theorem lk_RX6_83 {M : zz_MD} (h : M.1.cls = RX6 := by rfl) : zz_cV M mX4_takePart 83 3 := by
  unfold zz_cV zz_cB
  rw [h]
  decide +kernel
theorem lk_RX6_94 {M : zz_MD} (h : M.1.cls = RX6 := by rfl) : zz_cV M mX1_meetPair 94 2 := by
  unfold zz_cV zz_cB
  rw [h]
  decide +kernel
theorem lk_RX6_104 {M : zz_MD} (h : M.1.cls = RX6 := by rfl) : zz_cV M mX1_meetSentence 104 2 := by
  unfold zz_cV zz_cB
  rw [h]
  decide +kernel
theorem lk_RX6_107 {M : zz_MD} (h : M.1.cls = RX6 := by rfl) : zz_cV M mX4_at 107 1 := by
  unfold zz_cV zz_cB
  rw [h]
  decide +kernel
theorem lk_RX6_111 {M : zz_MD} (h : M.1.cls = RX6 := by rfl) : zz_cS M mX6_standsIn 111 2 := by
  unfold zz_cS zz_cB
  rw [h]
  decide +kernel
theorem lk_RX6_115 {M : zz_MD} (h : M.1.cls = RX6 := by rfl) : zz_cS M mX6_isNumber 115 1 := by
  unfold zz_cS zz_cB
  rw [h]
  decide +kernel
theorem lk_RX6_118 {M : zz_MD} (h : M.1.cls = RX6 := by rfl) : zz_cV M mX2_isSentence 118 1 := by
  unfold zz_cV zz_cB
  rw [h]
  decide +kernel
theorem lk_RX6_121 {M : zz_MD} (h : M.1.cls = RX6 := by rfl) : zz_cV M mX1_farOf 121 2 := by
  unfold zz_cV zz_cB
  rw [h]
  decide +kernel
theorem lk_RX6_129 {M : zz_MD} (h : M.1.cls = RX6 := by rfl) : zz_cV M mX2_bestFor 129 1 := by
  unfold zz_cV zz_cB
  rw [h]
  decide +kernel
theorem lk_RX6_132 {M : zz_MD} (h : M.1.cls = RX6 := by rfl) : zz_cS M mX1_likeButForNumbers 132 2 := by
  unfold zz_cS zz_cB
  rw [h]
  decide +kernel
theorem lk_RX6_136 {M : zz_MD} (h : M.1.cls = RX6 := by rfl) : zz_cS M mX6_signFilled 136 3 := by
  unfold zz_cS zz_cB
  rw [h]
  decide +kernel
theorem lk_RX6_140 {M : zz_MD} (h : M.1.cls = RX6 := by rfl) : zz_cV M mX4_placeOf 140 1 := by
  unfold zz_cV zz_cB
  rw [h]
  decide +kernel
theorem lk_RX6_146 {M : zz_MD} (h : M.1.cls = RX6 := by rfl) : zz_cS M mX3_ofText 146 1 := by
  unfold zz_cS zz_cB
  rw [h]
  decide +kernel
theorem lk_RX6_150 {M : zz_MD} (h : M.1.cls = RX6 := by rfl) : zz_cS M mX3_ofSentence 150 2 := by
  unfold zz_cS zz_cB
  rw [h]
  decide +kernel
theorem lk_RX6_154 {M : zz_MD} (h : M.1.cls = RX6 := by rfl) : zz_cV M mX3_putInOrder 154 1 := by
  unfold zz_cV zz_cB
  rw [h]
  decide +kernel
theorem lk_RX6_158 {M : zz_MD} (h : M.1.cls = RX6 := by rfl) : zz_cV M mX3_least 158 0 := by
  unfold zz_cV zz_cB
  rw [h]
  decide +kernel
theorem lk_RX6_164 {M : zz_MD} (h : M.1.cls = RX6 := by rfl) : zz_cV M mX3_fewestPairs 164 1 := by
  unfold zz_cV zz_cB
  rw [h]
  decide +kernel
theorem lk_RX6_167 {M : zz_MD} (h : M.1.cls = RX6 := by rfl) : zz_cS M mX6_isWord 167 1 := by
  unfold zz_cS zz_cB
  rw [h]
  decide +kernel
theorem lk_RX6_173 {M : zz_MD} (h : M.1.cls = RX6 := by rfl) : zz_cS M mX5_isWrong 173 2 := by
  unfold zz_cS zz_cB
  rw [h]
  decide +kernel
theorem lk_RX6_183 {M : zz_MD} (h : M.1.cls = RX6 := by rfl) : zz_cS M mX5_pairsWithBoth 183 3 := by
  unfold zz_cS zz_cB
  rw [h]
  decide +kernel
theorem lk_RX6_187 {M : zz_MD} (h : M.1.cls = RX6 := by rfl) : zz_cS M mX5_pairsWithEither 187 3 := by
  unfold zz_cS zz_cB
  rw [h]
  decide +kernel
theorem lk_RX6_190 {M : zz_MD} (h : M.1.cls = RX6 := by rfl) : zz_cS M mX5_lowered 190 2 := by
  unfold zz_cS zz_cB
  rw [h]
  decide +kernel
theorem lk_RX6_193 {M : zz_MD} (h : M.1.cls = RX6 := by rfl) : zz_cS M mX5_goesMost 193 2 := by
  unfold zz_cS zz_cB
  rw [h]
  decide +kernel
theorem lk_RX6_196 {M : zz_MD} (h : M.1.cls = RX6 := by rfl) : zz_cS M mX5_change 196 4 := by
  unfold zz_cS zz_cB
  rw [h]
  decide +kernel
theorem lk_RX6_200 {M : zz_MD} (h : M.1.cls = RX6 := by rfl) : zz_cV M mX4_sameAs 200 1 := by
  unfold zz_cV zz_cB
  rw [h]
  decide +kernel
theorem lk_RX6_210 {M : zz_MD} (h : M.1.cls = RX6 := by rfl) : zz_cV M mX0_lay 210 2 := by
  unfold zz_cV zz_cB
  rw [h]
  decide +kernel
theorem lk_RX6_224 {M : zz_MD} (h : M.1.cls = RX6 := by rfl) : zz_cV M mX2_take 224 1 := by
  unfold zz_cV zz_cB
  rw [h]
  decide +kernel
theorem lk_RX6_227 {M : zz_MD} (h : M.1.cls = RX6 := by rfl) : zz_cV M mX6_toldOfSettings 227 1 := by
  unfold zz_cV zz_cB
  rw [h]
  decide +kernel
theorem lk_RX7_79 {M : zz_MD} (h : M.1.cls = RX7 := by rfl) : zz_cS M mX7_in 79 3 := by
  unfold zz_cS zz_cB
  rw [h]
  decide +kernel
theorem lk_RX7_92 {M : zz_MD} (h : M.1.cls = RX7 := by rfl) : zz_cS M mX7_isNumber 92 1 := by
  unfold zz_cS zz_cB
  rw [h]
  decide +kernel
theorem lk_RX7_96 {M : zz_MD} (h : M.1.cls = RX7 := by rfl) : zz_cV M mX7_faultOf 96 1 := by
  unfold zz_cV zz_cB
  rw [h]
  decide +kernel
theorem lk_RX7_100 {M : zz_MD} (h : M.1.cls = RX7 := by rfl) : zz_cV M mX7_isPair 100 1 := by
  unfold zz_cV zz_cB
  rw [h]
  decide +kernel
theorem lk_RX7_103 {M : zz_MD} (h : M.1.cls = RX7 := by rfl) : zz_cS M mX7_changes 103 2 := by
  unfold zz_cS zz_cB
  rw [h]
  decide +kernel
theorem lk_RX7_107 {M : zz_MD} (h : M.1.cls = RX7 := by rfl) : zz_cV M mX7_isSentence 107 1 := by
  unfold zz_cV zz_cB
  rw [h]
  decide +kernel
theorem lk_RX7_110 {M : zz_MD} (h : M.1.cls = RX7 := by rfl) : zz_cV M mX7_farOf 110 6 := by
  unfold zz_cV zz_cB
  rw [h]
  decide +kernel
theorem lk_RX7_114 {M : zz_MD} (h : M.1.cls = RX7 := by rfl) : zz_cV M mX7_far 114 2 := by
  unfold zz_cV zz_cB
  rw [h]
  decide +kernel
theorem lk_RX7_117 {M : zz_MD} (h : M.1.cls = RX7 := by rfl) : zz_cS M mX7_like 117 3 := by
  unfold zz_cS zz_cB
  rw [h]
  decide +kernel
theorem lk_RX7_121 {M : zz_MD} (h : M.1.cls = RX7 := by rfl) : zz_cV M mX7_likePair 121 2 := by
  unfold zz_cV zz_cB
  rw [h]
  decide +kernel
theorem lk_RX7_124 {M : zz_MD} (h : M.1.cls = RX7 := by rfl) : zz_cV M mX7_matchOf 124 2 := by
  unfold zz_cV zz_cB
  rw [h]
  decide +kernel
theorem lk_RX7_130 {M : zz_MD} (h : M.1.cls = RX7 := by rfl) : zz_cV M mX7_foundOf 130 1 := by
  unfold zz_cV zz_cB
  rw [h]
  decide +kernel
theorem lk_RX7_133 {M : zz_MD} (h : M.1.cls = RX7 := by rfl) : zz_cV M mX7_doesFill 133 2 := by
  unfold zz_cV zz_cB
  rw [h]
  decide +kernel
theorem lk_RX7_137 {M : zz_MD} (h : M.1.cls = RX7 := by rfl) : zz_cS M mX7_band 137 1 := by
  unfold zz_cS zz_cB
  rw [h]
  decide +kernel
theorem lk_RX7_140 {M : zz_MD} (h : M.1.cls = RX7 := by rfl) : zz_cV M mX7_priceOf 140 1 := by
  unfold zz_cV zz_cB
  rw [h]
  decide +kernel
theorem lk_RX7_143 {M : zz_MD} (h : M.1.cls = RX7 := by rfl) : zz_cV M mX7_likeOf 143 2 := by
  unfold zz_cV zz_cB
  rw [h]
  decide +kernel
theorem lk_RX7_146 {M : zz_MD} (h : M.1.cls = RX7 := by rfl) : zz_cV M mX7_layBeside 146 0 := by
  unfold zz_cV zz_cB
  rw [h]
  decide +kernel
theorem lk_RX7_150 {M : zz_MD} (h : M.1.cls = RX7 := by rfl) : zz_cV M mX7_costs 150 2 := by
  unfold zz_cV zz_cB
  rw [h]
  decide +kernel
theorem lk_RX7_153 {M : zz_MD} (h : M.1.cls = RX7 := by rfl) : zz_cV M mX7_layOrders 153 0 := by
  unfold zz_cV zz_cB
  rw [h]
  decide +kernel
theorem lk_RX7_156 {M : zz_MD} (h : M.1.cls = RX7 := by rfl) : zz_cV M mX7_layNeeds 156 0 := by
  unfold zz_cV zz_cB
  rw [h]
  decide +kernel
theorem lk_RX7_159 {M : zz_MD} (h : M.1.cls = RX7 := by rfl) : zz_cS M mX7_bits 159 1 := by
  unfold zz_cS zz_cB
  rw [h]
  decide +kernel
theorem lk_RX7_162 {M : zz_MD} (h : M.1.cls = RX7 := by rfl) : zz_cS M mX7_isWord 162 1 := by
  unfold zz_cS zz_cB
  rw [h]
  decide +kernel
theorem lk_RX7_165 {M : zz_MD} (h : M.1.cls = RX7 := by rfl) : zz_cV M mX7_inFirst 165 2 := by
  unfold zz_cV zz_cB
  rw [h]
  decide +kernel
theorem lk_RX7_168 {M : zz_MD} (h : M.1.cls = RX7 := by rfl) : zz_cV M mX7_inSecond 168 2 := by
  unfold zz_cV zz_cB
  rw [h]
  decide +kernel
theorem lk_RX7_171 {M : zz_MD} (h : M.1.cls = RX7 := by rfl) : zz_cV M mX7_isWrong 171 1 := by
  unfold zz_cV zz_cB
  rw [h]
  decide +kernel
theorem lk_RX7_184 {M : zz_MD} (h : M.1.cls = RX7 := by rfl) : zz_cV M mX7_layGoes 184 2 := by
  unfold zz_cV zz_cB
  rw [h]
  decide +kernel
theorem lk_RX7_188 {M : zz_MD} (h : M.1.cls = RX7 := by rfl) : zz_cS M mX7_areAlike 188 5 := by
  unfold zz_cS zz_cB
  rw [h]
  decide +kernel
theorem lk_RX7_192 {M : zz_MD} (h : M.1.cls = RX7 := by rfl) : zz_cS M mX7_ofOne 192 1 := by
  unfold zz_cS zz_cB
  rw [h]
  decide +kernel
theorem lk_RX7_195 {M : zz_MD} (h : M.1.cls = RX7 := by rfl) : zz_cS M mX7_ofOther 195 1 := by
  unfold zz_cS zz_cB
  rw [h]
  decide +kernel
theorem lk_RX7_198 {M : zz_MD} (h : M.1.cls = RX7 := by rfl) : zz_cS M mX7_besides 198 1 := by
  unfold zz_cS zz_cB
  rw [h]
  decide +kernel
theorem lk_RX7_201 {M : zz_MD} (h : M.1.cls = RX7 := by rfl) : zz_cV M mX7_stepCosts 201 3 := by
  unfold zz_cV zz_cB
  rw [h]
  decide +kernel
theorem lk_RX7_204 {M : zz_MD} (h : M.1.cls = RX7 := by rfl) : zz_cV M mX7_layCosts 204 0 := by
  unfold zz_cV zz_cB
  rw [h]
  decide +kernel
