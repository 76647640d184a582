/-! THE MEMORY: the cells made by the law's three news (wip/gen/gmem.py writes this part). I a i: int number i of the cell a (field or place), J longs, R Words; Z: what came later (exceptions), the slots counted. -/
abbrev Mi : Type := Nat → Nat → Int32
abbrev Mj : Type := Nat → Nat → Int64
abbrev Mr : Type := Nat → Nat → Option Nat
abbrev Mz : Type := List AC × Nat
def st {α : Type} (I : Nat → α) (a : Nat) (f : α) : Nat → α := fun b => if b = a then f else I b
theorem st_eq {α : Type} {I : Nat → α} {a : Nat} {f : α} : st I a f a = f := if_pos rfl
theorem st_ne {α : Type} {I : Nat → α} {a b : Nat} {f : α} (h : b ≠ a) : st I a f b = I b := if_neg h
theorem st_st {α : Type} {I : Nat → α} {a : Nat} {f g : α} : st (st I a f) a g = st I a g := by
  funext b; unfold st; split <;> rfl
theorem st_id {α : Type} {I : Nat → α} {a : Nat} : st I a (I a) = I := by
  funext b; unfold st; split
  · rename_i h; rw [h]
  · rfl
theorem st_cm {α : Type} {I : Nat → α} {a b : Nat} {f g : α} (h : a ≠ b) : st (st I a f) b g = st (st I b g) a f := by
  funext c; unfold st
  by_cases h1 : c = b
  · rw [if_pos h1, if_neg (fun z => h (z.symm.trans h1)), if_pos h1]
  · rw [if_neg h1]; by_cases h2 : c = a
    · rw [if_pos h2, if_pos h2]
    · rw [if_neg h2, if_neg h2, if_neg h1]
theorem upd_eq {f : Nat → Int32} {i : Nat} {x : Int32} : upd f i x i = x := if_pos rfl
theorem upd_ne {f : Nat → Int32} {i j : Nat} {x : Int32} (h : j ≠ i) : upd f i x j = f j := if_neg h
def fv (I : Mi) (J : Mj) (R : Mr) (a i c : Nat) : Value := match c with
  | 0 => .int (I a i)
  | 1 => .long (J a i)
  | 2 => .ref ((R a i).getD 29)
  | k + 3 => .ref (k + 3)
def fl (I : Mi) (J : Mj) (R : Mr) (a : Nat) : Nat → List Nat → List Value
  | _, [] => []
  | i, c :: r => fv I J R a i c :: fl I J R a (i + 1) r
def celS (I : Mi) (J : Mj) (R : Mr) (a : Nat) (s : Nat × Nat × List Nat) : AC := match s.1 with
  | 0 => .inl (0, s.2.1, .inl (I a))
  | 1 => .inl (1, s.2.1, .inr (.inl (J a)))
  | 2 => .inl (2, s.2.1, .inl (I a))
  | 3 => .inl (3, s.2.1, .inl (I a))
  | 4 => .inl (4, s.2.1, .inr (.inr (.inr (.inr (R a)))))
  | 5 => .inl (5, s.2.1, .inr (.inr (.inr (.inr fun i => s.2.2[i]?))))
  | 6 => .inl (6, s.2.1, .inr (.inr (.inr (.inr fun i => s.2.2[i]?))))
  | c => .inr (c - 10, fl I J R a 0 s.2.2)

def SHT : List (Nat × Nat × List Nat) := [(20, 0, [65, 72, 76, 83, 90, 94, 98, 102, 114, 128, 126, 129, 335]),
  (18, 0, [66, 0, 67, 68, 69, 70, 71, 0]),
  (2, 1000, []),
  (0, 1001, []),
  (0, 1001, []),
  (0, 1001, []),
  (1, 1001, []),
  (4, 1001, []),
  (14, 0, [65, 73, 0, 0, 2, 0]),
  (12, 0, [74, 0, 75, 0]),
  (0, 1000, []),
  (0, 64, []),
  (10, 0, [0, 0, 0, 77, 78, 79, 80, 81, 82]),
  (0, 8, []),
  (0, 8, []),
  (0, 8, []),
  (0, 8, []),
  (0, 8, []),
  (1, 8, []),
  (10, 0, [0, 0, 0, 84, 85, 86, 87, 88, 89]),
  (0, 8, []),
  (0, 8, []),
  (0, 8, []),
  (0, 8, []),
  (0, 8, []),
  (1, 8, []),
  (19, 0, [0, 91, 92, 93]),
  (0, 40, []),
  (0, 40, []),
  (0, 40, []),
  (19, 0, [0, 95, 96, 97]),
  (0, 40, []),
  (0, 40, []),
  (0, 40, []),
  (19, 0, [0, 99, 100, 101]),
  (0, 8, []),
  (0, 8, []),
  (0, 8, []),
  (17, 0, [0, 0, 103, 104, 105, 106, 107, 108, 109, 110, 111, 112, 113]),
  (0, 40, []),
  (0, 40, []),
  (0, 40, []),
  (0, 40, []),
  (0, 40, []),
  (0, 40, []),
  (0, 5, []),
  (0, 20, []),
  (0, 8, []),
  (0, 8, []),
  (0, 8, []),
  (17, 0, [0, 0, 115, 116, 117, 118, 119, 120, 121, 122, 123, 124, 125]),
  (0, 40, []),
  (0, 40, []),
  (0, 40, []),
  (0, 40, []),
  (0, 40, []),
  (0, 40, []),
  (0, 5, []),
  (0, 20, []),
  (0, 8, []),
  (0, 8, []),
  (0, 8, []),
  (16, 0, [76, 127, 0]),
  (0, 8, []),
  (15, 0, [76, 126, 0, 0]),
  (11, 0, [130, 0, 0]),
  (5, 17, [131, 143, 155, 167, 179, 191, 203, 215, 227, 239, 251, 263, 275, 287, 299, 311, 323]),
  (17, 0, [0, 0, 132, 133, 134, 135, 136, 137, 138, 139, 140, 141, 142]),
  (0, 40, []),
  (0, 40, []),
  (0, 40, []),
  (0, 40, []),
  (0, 40, []),
  (0, 40, []),
  (0, 5, []),
  (0, 20, []),
  (0, 8, []),
  (0, 8, []),
  (0, 8, []),
  (17, 0, [0, 0, 144, 145, 146, 147, 148, 149, 150, 151, 152, 153, 154]),
  (0, 40, []),
  (0, 40, []),
  (0, 40, []),
  (0, 40, []),
  (0, 40, []),
  (0, 40, []),
  (0, 5, []),
  (0, 20, []),
  (0, 8, []),
  (0, 8, []),
  (0, 8, []),
  (17, 0, [0, 0, 156, 157, 158, 159, 160, 161, 162, 163, 164, 165, 166]),
  (0, 40, []),
  (0, 40, []),
  (0, 40, []),
  (0, 40, []),
  (0, 40, []),
  (0, 40, []),
  (0, 5, []),
  (0, 20, []),
  (0, 8, []),
  (0, 8, []),
  (0, 8, []),
  (17, 0, [0, 0, 168, 169, 170, 171, 172, 173, 174, 175, 176, 177, 178]),
  (0, 40, []),
  (0, 40, []),
  (0, 40, []),
  (0, 40, []),
  (0, 40, []),
  (0, 40, []),
  (0, 5, []),
  (0, 20, []),
  (0, 8, []),
  (0, 8, []),
  (0, 8, []),
  (17, 0, [0, 0, 180, 181, 182, 183, 184, 185, 186, 187, 188, 189, 190]),
  (0, 40, []),
  (0, 40, []),
  (0, 40, []),
  (0, 40, []),
  (0, 40, []),
  (0, 40, []),
  (0, 5, []),
  (0, 20, []),
  (0, 8, []),
  (0, 8, []),
  (0, 8, []),
  (17, 0, [0, 0, 192, 193, 194, 195, 196, 197, 198, 199, 200, 201, 202]),
  (0, 40, []),
  (0, 40, []),
  (0, 40, []),
  (0, 40, []),
  (0, 40, []),
  (0, 40, []),
  (0, 5, []),
  (0, 20, []),
  (0, 8, []),
  (0, 8, []),
  (0, 8, []),
  (17, 0, [0, 0, 204, 205, 206, 207, 208, 209, 210, 211, 212, 213, 214]),
  (0, 40, []),
  (0, 40, []),
  (0, 40, []),
  (0, 40, []),
  (0, 40, []),
  (0, 40, []),
  (0, 5, []),
  (0, 20, []),
  (0, 8, []),
  (0, 8, []),
  (0, 8, []),
  (17, 0, [0, 0, 216, 217, 218, 219, 220, 221, 222, 223, 224, 225, 226]),
  (0, 40, []),
  (0, 40, []),
  (0, 40, []),
  (0, 40, []),
  (0, 40, []),
  (0, 40, []),
  (0, 5, []),
  (0, 20, []),
  (0, 8, []),
  (0, 8, []),
  (0, 8, []),
  (17, 0, [0, 0, 228, 229, 230, 231, 232, 233, 234, 235, 236, 237, 238]),
  (0, 40, []),
  (0, 40, []),
  (0, 40, []),
  (0, 40, []),
  (0, 40, []),
  (0, 40, []),
  (0, 5, []),
  (0, 20, []),
  (0, 8, []),
  (0, 8, []),
  (0, 8, []),
  (17, 0, [0, 0, 240, 241, 242, 243, 244, 245, 246, 247, 248, 249, 250]),
  (0, 40, []),
  (0, 40, []),
  (0, 40, []),
  (0, 40, []),
  (0, 40, []),
  (0, 40, []),
  (0, 5, []),
  (0, 20, []),
  (0, 8, []),
  (0, 8, []),
  (0, 8, []),
  (17, 0, [0, 0, 252, 253, 254, 255, 256, 257, 258, 259, 260, 261, 262]),
  (0, 40, []),
  (0, 40, []),
  (0, 40, []),
  (0, 40, []),
  (0, 40, []),
  (0, 40, []),
  (0, 5, []),
  (0, 20, []),
  (0, 8, []),
  (0, 8, []),
  (0, 8, []),
  (17, 0, [0, 0, 264, 265, 266, 267, 268, 269, 270, 271, 272, 273, 274]),
  (0, 40, []),
  (0, 40, []),
  (0, 40, []),
  (0, 40, []),
  (0, 40, []),
  (0, 40, []),
  (0, 5, []),
  (0, 20, []),
  (0, 8, []),
  (0, 8, []),
  (0, 8, []),
  (17, 0, [0, 0, 276, 277, 278, 279, 280, 281, 282, 283, 284, 285, 286]),
  (0, 40, []),
  (0, 40, []),
  (0, 40, []),
  (0, 40, []),
  (0, 40, []),
  (0, 40, []),
  (0, 5, []),
  (0, 20, []),
  (0, 8, []),
  (0, 8, []),
  (0, 8, []),
  (17, 0, [0, 0, 288, 289, 290, 291, 292, 293, 294, 295, 296, 297, 298]),
  (0, 40, []),
  (0, 40, []),
  (0, 40, []),
  (0, 40, []),
  (0, 40, []),
  (0, 40, []),
  (0, 5, []),
  (0, 20, []),
  (0, 8, []),
  (0, 8, []),
  (0, 8, []),
  (17, 0, [0, 0, 300, 301, 302, 303, 304, 305, 306, 307, 308, 309, 310]),
  (0, 40, []),
  (0, 40, []),
  (0, 40, []),
  (0, 40, []),
  (0, 40, []),
  (0, 40, []),
  (0, 5, []),
  (0, 20, []),
  (0, 8, []),
  (0, 8, []),
  (0, 8, []),
  (17, 0, [0, 0, 312, 313, 314, 315, 316, 317, 318, 319, 320, 321, 322]),
  (0, 40, []),
  (0, 40, []),
  (0, 40, []),
  (0, 40, []),
  (0, 40, []),
  (0, 40, []),
  (0, 5, []),
  (0, 20, []),
  (0, 8, []),
  (0, 8, []),
  (0, 8, []),
  (17, 0, [0, 0, 324, 325, 326, 327, 328, 329, 330, 331, 332, 333, 334]),
  (0, 40, []),
  (0, 40, []),
  (0, 40, []),
  (0, 40, []),
  (0, 40, []),
  (0, 40, []),
  (0, 5, []),
  (0, 20, []),
  (0, 8, []),
  (0, 8, []),
  (0, 8, []),
  (6, 4, [336, 357, 378, 399]),
  (13, 0, [0, 337, 349, 353]),
  (17, 0, [0, 0, 338, 339, 340, 341, 342, 343, 344, 345, 346, 347, 348]),
  (0, 40, []),
  (0, 40, []),
  (0, 40, []),
  (0, 40, []),
  (0, 40, []),
  (0, 40, []),
  (0, 5, []),
  (0, 20, []),
  (0, 8, []),
  (0, 8, []),
  (0, 8, []),
  (19, 0, [0, 350, 351, 352]),
  (0, 40, []),
  (0, 40, []),
  (0, 40, []),
  (19, 0, [0, 354, 355, 356]),
  (0, 8, []),
  (0, 8, []),
  (0, 8, []),
  (13, 0, [0, 358, 370, 374]),
  (17, 0, [0, 0, 359, 360, 361, 362, 363, 364, 365, 366, 367, 368, 369]),
  (0, 40, []),
  (0, 40, []),
  (0, 40, []),
  (0, 40, []),
  (0, 40, []),
  (0, 40, []),
  (0, 5, []),
  (0, 20, []),
  (0, 8, []),
  (0, 8, []),
  (0, 8, []),
  (19, 0, [0, 371, 372, 373]),
  (0, 40, []),
  (0, 40, []),
  (0, 40, []),
  (19, 0, [0, 375, 376, 377]),
  (0, 8, []),
  (0, 8, []),
  (0, 8, []),
  (13, 0, [0, 379, 391, 395]),
  (17, 0, [0, 0, 380, 381, 382, 383, 384, 385, 386, 387, 388, 389, 390]),
  (0, 40, []),
  (0, 40, []),
  (0, 40, []),
  (0, 40, []),
  (0, 40, []),
  (0, 40, []),
  (0, 5, []),
  (0, 20, []),
  (0, 8, []),
  (0, 8, []),
  (0, 8, []),
  (19, 0, [0, 392, 393, 394]),
  (0, 40, []),
  (0, 40, []),
  (0, 40, []),
  (19, 0, [0, 396, 397, 398]),
  (0, 8, []),
  (0, 8, []),
  (0, 8, []),
  (13, 0, [0, 400, 412, 416]),
  (17, 0, [0, 0, 401, 402, 403, 404, 405, 406, 407, 408, 409, 410, 411]),
  (0, 40, []),
  (0, 40, []),
  (0, 40, []),
  (0, 40, []),
  (0, 40, []),
  (0, 40, []),
  (0, 5, []),
  (0, 20, []),
  (0, 8, []),
  (0, 8, []),
  (0, 8, []),
  (19, 0, [0, 413, 414, 415]),
  (0, 40, []),
  (0, 40, []),
  (0, 40, []),
  (19, 0, [0, 417, 418, 419]),
  (0, 8, []),
  (0, 8, []),
  (0, 8, []),
  (21, 0, [0, 0, 421, 0, 0, 0, 0, 1, 0, 0, 422, 423, 424, 425, 426, 427, 428, 429, 430, 0, 431, 432, 433, 434, 435, 436, 437, 438, 439, 440, 441, 442, 0, 443, 444, 445, 446, 447, 448, 449, 450, 451, 452, 453, 454, 455, 456, 0, 457, 1]),
  (0, 1000, []),
  (0, 6, []),
  (1, 16, []),
  (0, 16, []),
  (0, 16, []),
  (0, 16, []),
  (0, 16, []),
  (0, 2, []),
  (0, 2, []),
  (0, 2000, []),
  (0, 7, []),
  (3, 7, []),
  (0, 7, []),
  (0, 7, []),
  (0, 7, []),
  (0, 7, []),
  (0, 7, []),
  (0, 7, []),
  (0, 7, []),
  (0, 7, []),
  (0, 7, []),
  (0, 20, []),
  (0, 6, []),
  (0, 240, []),
  (0, 240, []),
  (0, 240, []),
  (0, 5, []),
  (0, 40, []),
  (0, 40, []),
  (3, 40, []),
  (0, 291, []),
  (0, 291, []),
  (0, 291, []),
  (0, 1164, []),
  (0, 4656, []),
  (3, 4, []),
  (0, 8, []),
  (1, 1, [])]

def cel (I : Mi) (J : Mj) (R : Mr) (k : Nat) : AC := match SHT[k]? with
  | some s => celS I J R (64 + k) s
  | none => .inr (99, [])
def mk (I : Mi) (J : Mj) (R : Mr) (Z : Mz) : Hp := ((List.range 395).map (cel I J R) ++ Z.1, Z.2)
theorem SHT_len : SHT.length = 395 := by decide +kernel
section MEM
variable {I I' : Mi} {J J' : Mj} {R R' : Mr} {Z : Mz} {L : Nat} {xs : Nat → Int32}
theorem SHT_lt {k : Nat} {s : Nat × Nat × List Nat} (h : SHT[k]? = some s) : k < 395 := by
  have := (List.getElem?_eq_some_iff.mp h).1
  rw [SHT_len] at this; exact this
theorem mk_get {k : Nat} {s : Nat × Nat × List Nat} (h : SHT[k]? = some s) : (mk I J R Z).1[k]? = some (celS I J R (64 + k) s) := by
  have hk := SHT_lt h
  show ((List.range 395).map (cel I J R) ++ Z.1)[k]? = _
  rw [List.getElem?_append_left (by simpa using hk), List.getElem?_map, List.getElem?_range hk]
  show some (cel I J R k) = _
  unfold cel; rw [h]
theorem fl_cg {a : Nat} (h1 : I' a = I a) (h2 : J' a = J a) (h3 : R' a = R a) : ∀ (fs : List Nat) (i : Nat), fl I' J' R' a i fs = fl I J R a i fs
  | [], _ => rfl
  | c :: r, i => by
    show fv I' J' R' a i c :: fl I' J' R' a (i + 1) r = fv I J R a i c :: fl I J R a (i + 1) r
    rw [fl_cg h1 h2 h3 r]
    unfold fv; rw [h1, h2, h3]
theorem celS_cg {a : Nat} {s : Nat × Nat × List Nat} (h1 : I' a = I a) (h2 : J' a = J a) (h3 : R' a = R a) : celS I' J' R' a s = celS I J R a s := by
  unfold celS; rw [h1, h2, h3, fl_cg h1 h2 h3]
theorem mk_put {a : Nat} {s : Nat × Nat × List Nat} {c : AC} (ha : 64 ≤ a) (h : SHT[a - 64]? = some s) (h1 : ∀ b, b ≠ a → I' b = I b ∧ J' b = J b ∧ R' b = R b) (hc : c = celS I' J' R' a s) : ip_put (mk I J R Z) a c = mk I' J' R' Z := by
  have hk := SHT_lt h
  unfold ip_put mk
  refine Prod.ext ?_ rfl
  show ((List.range 395).map (cel I J R) ++ Z.1).set (a - 64) c = (List.range 395).map (cel I' J' R') ++ Z.1
  rw [List.set_append_left _ _ (by simpa using hk)]
  congr 1
  apply List.ext_getElem?
  intro k
  rw [List.getElem?_set, List.getElem?_map, List.getElem?_map]
  by_cases hkk : a - 64 = k
  · subst hkk
    rw [if_pos rfl, if_pos (by simpa using hk), List.getElem?_range hk]
    show some c = some (cel I' J' R' (a - 64))
    unfold cel; rw [h, hc]
    show some (celS I' J' R' a s) = some (celS I' J' R' (64 + (a - 64)) s)
    rw [show 64 + (a - 64) = a by omega]
  · rw [if_neg hkk]
    by_cases hk2 : k < 395
    · rw [List.getElem?_range hk2]
      show some (cel I J R k) = some (cel I' J' R' k)
      obtain ⟨q1, q2, q3⟩ := h1 (64 + k) (by omega)
      unfold cel
      cases SHT[k]? with
      | none => rfl
      | some s => exact congrArg some (celS_cg q1 q2 q3).symm
    · rw [List.getElem?_eq_none (by simpa using hk2)]; rfl
theorem ob_mk {a c : Nat} {fs : List Nat} (ha : 64 ≤ a) (h : SHT[a - 64]? = some (c + 10, 0, fs)) : ip_obj (mk I J R Z) a = some (c, fl I J R a 0 fs) := by
  unfold ip_obj
  rw [if_neg (by omega), mk_get h, show 64 + (a - 64) = a by omega]
  rfl
theorem ar_mk {a : Nat} {s : Nat × Nat × List Nat} {q : Nat × vp_A} (ha : 64 ≤ a) (h : SHT[a - 64]? = some s) (hq : celS I J R a s = .inl q) : ip_arr (mk I J R Z) a = some q := by
  unfold ip_arr
  rw [if_neg (by omega), mk_get h, show 64 + (a - 64) = a by omega, hq]
theorem fl_get {a : Nat} {f : Nat} : ∀ (fs : List Nat) (i k : Nat), fs[i]? = some f → (fl I J R a k fs)[i]? = some (fv I J R a (k + i) f)
  | [], _, _, h => by simp at h
  | c :: r, 0, k, h => by
    simp at h; subst h; rfl
  | c :: r, i + 1, k, h => by
    have := fl_get (a := a) r i (k + 1) (by simpa using h)
    show (fl I J R a (k + 1) r)[i]? = _
    rw [this]; congr 2; omega
theorem fl_len {a : Nat} : ∀ (fs : List Nat) (k : Nat), (fl I J R a k fs).length = fs.length
  | [], _ => rfl
  | c :: r, k => by show (fl I J R a (k + 1) r).length + 1 = r.length + 1; rw [fl_len r]
theorem gf_mk {a c i f : Nat} {fs : List Nat} {K : Value → Prop} (ha : 64 ≤ a) (h : SHT[a - 64]? = some (c + 10, 0, fs)) (hf : fs[i]? = some f) : gf (ip_obj (mk I J R Z) a) c i K = K (fv I J R a i f) := by
  rw [ob_mk ha h]
  unfold gf
  dsimp only
  rw [fl_get fs i 0 hf, Nat.zero_add]
  simp
theorem fl_nx {a : Nat} {I' : Mi} {J' : Mj} {R' : Mr} : ∀ (fs : List Nat) (k : Nat), (∀ j, k ≤ j → I' a j = I a j ∧ J' a j = J a j ∧ R' a j = R a j) → fl I' J' R' a k fs = fl I J R a k fs
  | [], _, _ => rfl
  | c :: r, k, h => by
    show fv I' J' R' a k c :: fl I' J' R' a (k + 1) r = fv I J R a k c :: fl I J R a (k + 1) r
    rw [fl_nx r (k + 1) (fun j hj => h j (by omega))]
    obtain ⟨q1, q2, q3⟩ := h k (Nat.le_refl k)
    unfold fv; rw [q1, q2, q3]
theorem fl_set {a i : Nat} {v : Value} {I' : Mi} {J' : Mj} {R' : Mr} : ∀ (fs : List Nat) (f n k : Nat), fs[n]? = some f → k + n = i → (∀ j, j ≠ i → I' a j = I a j ∧ J' a j = J a j ∧ R' a j = R a j) → fv I' J' R' a i f = v → (fl I J R a k fs).set n v = fl I' J' R' a k fs
  | [], _, _, _, h, _, _, _ => by simp at h
  | c :: r, f, 0, k, h, hi, hj, hv => by
    simp at h; subst h
    show v :: fl I J R a (k + 1) r = fv I' J' R' a k c :: fl I' J' R' a (k + 1) r
    rw [← hv, show i = k by omega, fl_nx r (k + 1) (fun j hj' => hj j (by omega))]
  | c :: r, f, n + 1, k, h, hi, hj, hv => by
    show fv I J R a k c :: (fl I J R a (k + 1) r).set n v = fv I' J' R' a k c :: fl I' J' R' a (k + 1) r
    rw [fl_set r f n (k + 1) (by simpa using h) (by omega) hj hv]
    obtain ⟨q1, q2, q3⟩ := hj k (by omega)
    unfold fv; rw [q1, q2, q3]
theorem sf_mk {a c i f k : Nat} {fs : List Nat} {v : Value} {K : Hp → Prop} (ha : 64 ≤ a) (h : SHT[a - 64]? = some (c + 10, 0, fs)) (hf : fs[i]? = some f) (h1 : ∀ b, b ≠ a → I' b = I b ∧ J' b = J b ∧ R' b = R b) (h2 : ∀ j, j ≠ i → I' a j = I a j ∧ J' a j = J a j ∧ R' a j = R a j) (hv : fv I' J' R' a i f = v) :
    sf (mk I J R Z) a c i k v K = (ip_fit k v = true ∧ K (mk I' J' R' Z)) := by
  unfold sf pf
  rw [ob_mk ha h]
  dsimp only
  rw [fl_set fs f i 0 hf (by omega) h2 hv, fl_len]
  have hlt := (List.getElem?_eq_some_iff.mp hf).1
  rw [mk_put ha h h1 (c := .inr (c, fl I' J' R' a 0 fs)) (by rfl)]
  simp [hlt]
theorem sfI {a c i k : Nat} {fs : List Nat} {x : Int32} {K : Hp → Prop} (ha : 64 ≤ a) (h : SHT[a - 64]? = some (c + 10, 0, fs)) (hf : fs[i]? = some 0) : sf (mk I J R Z) a c i k (.int x) K = (ip_fit k (.int x) = true ∧ K (mk (st I a (upd (I a) i x)) J R Z)) :=
  sf_mk ha h hf (fun b hb => ⟨st_ne hb, rfl, rfl⟩) (fun j hj => ⟨by rw [st_eq]; exact upd_ne hj, rfl, rfl⟩) (by show Value.int (st I a (upd (I a) i x) a i) = _; rw [st_eq, upd_eq])
theorem sfJ {a c i k : Nat} {fs : List Nat} {x : Int64} {K : Hp → Prop} (ha : 64 ≤ a) (h : SHT[a - 64]? = some (c + 10, 0, fs)) (hf : fs[i]? = some 1) : sf (mk I J R Z) a c i k (.long x) K = (ip_fit k (.long x) = true ∧ K (mk I (st J a (vp_updL (J a) i x)) R Z)) :=
  sf_mk ha h hf (fun b hb => ⟨rfl, st_ne hb, rfl⟩) (fun j hj => ⟨rfl, by rw [st_eq]; exact if_neg hj, rfl⟩) (by show Value.long (st J a (vp_updL (J a) i x) a i) = _; rw [st_eq]; exact congrArg Value.long (if_pos rfl))
theorem sfR {a c i k : Nat} {fs : List Nat} {x : Nat} {K : Hp → Prop} (ha : 64 ≤ a) (h : SHT[a - 64]? = some (c + 10, 0, fs)) (hf : fs[i]? = some 2) : sf (mk I J R Z) a c i k (.ref x) K = (ip_fit k (.ref x) = true ∧ K (mk I J (st R a (va_up (R a) i (some x))) Z)) :=
  sf_mk ha h hf (fun b hb => ⟨rfl, rfl, st_ne hb⟩) (fun j hj => ⟨rfl, rfl, by rw [st_eq]; exact if_neg hj⟩) (by show Value.ref ((st R a (va_up (R a) i (some x)) a i).getD 29) = _; rw [st_eq]; show Value.ref ((if i = i then some x else R a i).getD 29) = _; rw [if_pos rfl]; rfl)
theorem giM {a t n : Nat} {i : Int32} {K : Int32 → Prop} (ha : 64 ≤ a) (h : SHT[a - 64]? = some (t, n, [])) (ht : t = 0 ∨ t = 2 ∨ t = 3) : gi L xs (mk I J R Z) t a i K = (ip_in i n = true ∧ K (I a i.toNatClampNeg)) := by
  unfold gi
  rw [if_neg (by omega), if_neg (by omega)]
  rcases ht with rfl | rfl | rfl <;> (rw [ar_mk ha h rfl]; simp)
theorem siM {a t n : Nat} {i x : Int32} {K : Hp → Prop} (ha : 64 ≤ a) (h : SHT[a - 64]? = some (t, n, [])) (ht : t = 0 ∨ t = 2 ∨ t = 3) : si (mk I J R Z) t a i x K = (ip_in i n = true ∧ K (mk (st I a (upd (I a) i.toNatClampNeg (na t x))) J R Z)) := by
  unfold si
  rcases ht with rfl | rfl | rfl
  · rw [ar_mk ha h rfl]; dsimp only; rw [mk_put ha h (I' := st I a (upd (I a) i.toNatClampNeg (na 0 x))) (J' := J) (R' := R) (fun b hb => ⟨st_ne hb, rfl, rfl⟩) (by unfold celS; dsimp only; rw [st_eq]; rfl)]; simp
  · rw [ar_mk ha h rfl]; dsimp only; rw [mk_put ha h (I' := st I a (upd (I a) i.toNatClampNeg (na 2 x))) (J' := J) (R' := R) (fun b hb => ⟨st_ne hb, rfl, rfl⟩) (by unfold celS; dsimp only; rw [st_eq]; rfl)]; simp
  · rw [ar_mk ha h rfl]; dsimp only; rw [mk_put ha h (I' := st I a (upd (I a) i.toNatClampNeg (na 3 x))) (J' := J) (R' := R) (fun b hb => ⟨st_ne hb, rfl, rfl⟩) (by unfold celS; dsimp only; rw [st_eq]; rfl)]; simp
theorem glM {a n : Nat} {i : Int32} {K : Int64 → Prop} (ha : 64 ≤ a) (h : SHT[a - 64]? = some (1, n, [])) : gl (mk I J R Z) a i K = (ip_in i n = true ∧ K (J a i.toNatClampNeg)) := by
  unfold gl; rw [ar_mk ha h rfl]; simp
theorem slM {a n : Nat} {i : Int32} {x : Int64} {K : Hp → Prop} (ha : 64 ≤ a) (h : SHT[a - 64]? = some (1, n, [])) : sl (mk I J R Z) a i x K = (ip_in i n = true ∧ K (mk I (st J a (vp_updL (J a) i.toNatClampNeg x)) R Z)) := by
  unfold sl; rw [ar_mk ha h rfl]; dsimp only
  rw [mk_put ha h (I' := I) (J' := st J a (vp_updL (J a) i.toNatClampNeg x)) (R' := R) (fun b hb => ⟨rfl, st_ne hb, rfl⟩) (by unfold celS; dsimp only; rw [st_eq]; rfl)]; simp
theorem grM {i : Int32} {K : Nat → Prop} : gr (mk I J R Z) 71 i K = (ip_in i 1001 = true ∧ (match R 71 i.toNatClampNeg with
    | some k => K k
    | none => False)) := by
  unfold gr
  rw [if_neg (by decide), ar_mk (a := 71) (s := (4, 1001, [])) (by decide) rfl rfl]
  exact propext ⟨fun z => z.2, fun z => ⟨by decide, z⟩⟩
theorem srM {i : Int32} {v : Nat} {K : Hp → Prop} (hv : v < 30) : sr (mk I J R Z) 71 i v K = (ip_in i 1001 = true ∧ K (mk I J (st R 71 (va_up (R 71) i.toNatClampNeg (some v))) Z)) := by
  unfold sr
  rw [ar_mk (a := 71) (s := (4, 1001, [])) (by decide) rfl rfl]
  dsimp only
  rw [mk_put (a := 71) (s := (4, 1001, [])) (by decide) rfl (I' := I) (J' := J) (R' := st R 71 (va_up (R 71) i.toNatClampNeg (some v))) (fun b hb => ⟨rfl, rfl, st_ne hb⟩) (by unfold celS; dsimp only; rw [st_eq]; rfl)]
  simp [ip_mem, hv]
theorem alM {a t n : Nat} {fs : List Nat} {K : Int32 → Prop} (ha : 64 ≤ a) (h : SHT[a - 64]? = some (t, n, fs)) (ht : t ≤ 6) : al L (mk I J R Z) a K = K (nI n) := by
  unfold al
  rw [if_neg (by omega), if_neg (by omega), if_neg (by omega)]
  match t, ht with
  | 0, _ => rw [ar_mk ha h rfl]; simp; rfl
  | 1, _ => rw [ar_mk ha h rfl]; simp; rfl
  | 2, _ => rw [ar_mk ha h rfl]; simp; rfl
  | 3, _ => rw [ar_mk ha h rfl]; simp; rfl
  | 4, _ => rw [ar_mk ha h rfl]; simp; rfl
  | 5, _ => rw [ar_mk ha h rfl]; simp; rfl
  | 6, _ => rw [ar_mk ha h rfl]; simp; rfl
theorem rcM {a c : Nat} {fs : List Nat} {l : List Value} (ha : 64 ≤ a) (h : SHT[a - 64]? = some (c + 10, 0, fs)) : ip_rc (mk I J R Z) c (.ref a :: l) = true := by
  unfold ip_rc
  dsimp only
  have hk := SHT_lt h
  by_cases h32 : a = 32
  · omega
  · rw [if_neg h32, ob_mk ha h]
    simp
theorem cpI {a b n0 n1 n : Nat} {K : Hp → Prop} (ha : 64 ≤ a) (h : SHT[a - 64]? = some (0, n0, [])) (hb : 64 ≤ b) (h' : SHT[b - 64]? = some (0, n1, [])) (h0 : n ≤ n0) (h1 : n ≤ n1) (hn : n < 2 ^ 31) : acp (mk I J R Z) [.ref a, .int (nI 0), .ref b, .int (nI 0), .int (nI n)] K = K (mk (st I b (va_cpy (I a) (I b) 0 0 n)) J R Z) := by
  unfold acp ip_cp
  dsimp only
  rw [if_pos ⟨by decide, by decide, nI_pos' hn⟩, ar_mk ha h rfl, ar_mk hb h' rfl]
  dsimp only
  rw [nI_clamp hn, show (nI 0).toNatClampNeg = 0 by decide]
  show (match (if 0 + n ≤ n0 ∧ 0 + n ≤ n1 then some (ip_put (mk I J R Z) b (.inl (0, n1, .inl (va_cpy (I a) (I b) 0 0 n)))) else none) with
    | some h' => K h'
    | none => False) = _
  rw [if_pos (by omega), mk_put hb h' (I' := st I b (va_cpy (I a) (I b) 0 0 n)) (J' := J) (R' := R) (fun b hb => ⟨st_ne hb, rfl, rfl⟩) (by unfold celS; dsimp only; rw [st_eq]; rfl)]
theorem cpJ {a b n0 n1 n : Nat} {K : Hp → Prop} (ha : 64 ≤ a) (h : SHT[a - 64]? = some (1, n0, [])) (hb : 64 ≤ b) (h' : SHT[b - 64]? = some (1, n1, [])) (h0 : n ≤ n0) (h1 : n ≤ n1) (hn : n < 2 ^ 31) : acp (mk I J R Z) [.ref a, .int (nI 0), .ref b, .int (nI 0), .int (nI n)] K = K (mk I (st J b (va_cpy (J a) (J b) 0 0 n)) R Z) := by
  unfold acp ip_cp
  dsimp only
  rw [if_pos ⟨by decide, by decide, nI_pos' hn⟩, ar_mk ha h rfl, ar_mk hb h' rfl]
  dsimp only
  rw [nI_clamp hn, show (nI 0).toNatClampNeg = 0 by decide]
  show (match (if 0 + n ≤ n0 ∧ 0 + n ≤ n1 then some (ip_put (mk I J R Z) b (.inl (1, n1, .inr (.inl (va_cpy (J a) (J b) 0 0 n))))) else none) with
    | some h' => K h'
    | none => False) = _
  rw [if_pos (by omega), mk_put hb h' (I' := I) (J' := st J b (va_cpy (J a) (J b) 0 0 n)) (R' := R) (fun b hb => ⟨rfl, st_ne hb, rfl⟩) (by unfold celS; dsimp only; rw [st_eq]; rfl)]

theorem at_drop {s n j : Nat} {l : List (Nat × Nat × List Nat)} (h : (SHT.drop (s - 64)).take n = l) (hj : j < n) (hs : 64 ≤ s) : SHT[s + j - 64]? = l[j]? := by
  rw [← h, List.getElem?_take, if_pos hj, List.getElem?_drop, show s - 64 + j = s + j - 64 by omega]
/-- a State lies at s -/
def isS (s : Nat) : Prop := (102 ≤ s ∧ (s < 115 ∨ 130 < s) ∧ s < 408) ∧ (SHT.drop (s - 64)).take 12 = [(17, 0, [0, 0, s + 1, s + 2, s + 3, s + 4, s + 5, s + 6, s + 7, s + 8, s + 9, s + 10, s + 11]), (0, 40, []), (0, 40, []), (0, 40, []), (0, 40, []), (0, 40, []), (0, 40, []), (0, 5, []), (0, 20, []), (0, 8, []), (0, 8, []), (0, 8, [])]
/-- Triples of n lie at t -/
def isT (t n : Nat) : Prop := (90 ≤ t ∧ t < 417) ∧ n ≤ 40 ∧ (SHT.drop (t - 64)).take 4 = [(19, 0, [0, t + 1, t + 2, t + 3]), (0, n, []), (0, n, []), (0, n, [])]
/-- a Group lies at g -/
def isG (g : Nat) : Prop := (76 ≤ g ∧ g < 84) ∧ (SHT.drop (g - 64)).take 7 = [(10, 0, [0, 0, 0, g + 1, g + 2, g + 3, g + 4, g + 5, g + 6]), (0, 8, []), (0, 8, []), (0, 8, []), (0, 8, []), (0, 8, []), (1, 8, [])]
theorem hS0 {s : Nat} (h : isS s) : SHT[s - 64]? = some (17, 0, [0, 0, s + 1, s + 2, s + 3, s + 4, s + 5, s + 6, s + 7, s + 8, s + 9, s + 10, s + 11]) := at_drop (j := 0) h.2 (by decide) (by have := h.1.1; omega)
theorem hT0 {t n : Nat} (h : isT t n) : SHT[t - 64]? = some (19, 0, [0, t + 1, t + 2, t + 3]) := at_drop (j := 0) h.2.2 (by decide) (by have := h.1.1; omega)
theorem hG0 {g : Nat} (h : isG g) : SHT[g - 64]? = some (10, 0, [0, 0, 0, g + 1, g + 2, g + 3, g + 4, g + 5, g + 6]) := at_drop (j := 0) h.2 (by decide) (by have := h.1.1; omega)
theorem isG_76 : isG 76 := by unfold isG; decide +kernel
theorem isG_83 : isG 83 := by unfold isG; decide +kernel
theorem isT_90 : isT 90 40 := by unfold isT; decide +kernel
theorem isT_94 : isT 94 40 := by unfold isT; decide +kernel
theorem isT_98 : isT 98 8 := by unfold isT; decide +kernel
theorem isS_102 : isS 102 := by unfold isS; decide +kernel
theorem isS_114 : isS 114 := by unfold isS; decide +kernel
theorem isS_131 : isS 131 := by unfold isS; decide +kernel
theorem isS_143 : isS 143 := by unfold isS; decide +kernel
theorem isS_155 : isS 155 := by unfold isS; decide +kernel
theorem isS_167 : isS 167 := by unfold isS; decide +kernel
theorem isS_179 : isS 179 := by unfold isS; decide +kernel
theorem isS_191 : isS 191 := by unfold isS; decide +kernel
theorem isS_203 : isS 203 := by unfold isS; decide +kernel
theorem isS_215 : isS 215 := by unfold isS; decide +kernel
theorem isS_227 : isS 227 := by unfold isS; decide +kernel
theorem isS_239 : isS 239 := by unfold isS; decide +kernel
theorem isS_251 : isS 251 := by unfold isS; decide +kernel
theorem isS_263 : isS 263 := by unfold isS; decide +kernel
theorem isS_275 : isS 275 := by unfold isS; decide +kernel
theorem isS_287 : isS 287 := by unfold isS; decide +kernel
theorem isS_299 : isS 299 := by unfold isS; decide +kernel
theorem isS_311 : isS 311 := by unfold isS; decide +kernel
theorem isS_323 : isS 323 := by unfold isS; decide +kernel
theorem isS_337 : isS 337 := by unfold isS; decide +kernel
theorem isT_349 : isT 349 40 := by unfold isT; decide +kernel
theorem isT_353 : isT 353 8 := by unfold isT; decide +kernel
theorem isS_358 : isS 358 := by unfold isS; decide +kernel
theorem isT_370 : isT 370 40 := by unfold isT; decide +kernel
theorem isT_374 : isT 374 8 := by unfold isT; decide +kernel
theorem isS_379 : isS 379 := by unfold isS; decide +kernel
theorem isT_391 : isT 391 40 := by unfold isT; decide +kernel
theorem isT_395 : isT 395 8 := by unfold isT; decide +kernel
theorem isS_400 : isS 400 := by unfold isS; decide +kernel
theorem isT_412 : isT 412 40 := by unfold isT; decide +kernel
theorem isT_416 : isT 416 8 := by unfold isT; decide +kernel
theorem gS0 {s : Nat} {K : Value → Prop} (h : isS s) : gf (ip_obj (mk I J R Z) s) 7 0 K = K (.int (I s 0)) := gf_mk (f := 0) (by have := h.1.1; omega) (hS0 h) rfl
theorem gS1 {s : Nat} {K : Value → Prop} (h : isS s) : gf (ip_obj (mk I J R Z) s) 7 1 K = K (.int (I s 1)) := gf_mk (f := 0) (by have := h.1.1; omega) (hS0 h) rfl
theorem gS2 {s : Nat} {K : Value → Prop} (h : isS s) : gf (ip_obj (mk I J R Z) s) 7 2 K = K (.ref (s + 1)) := (gf_mk (f := s + 1) (by have := h.1.1; omega) (hS0 h) rfl).trans (by rw [show s + 1 = (s + 1 - 3) + 3 by have := h.1.1; omega]; rfl)
theorem gS3 {s : Nat} {K : Value → Prop} (h : isS s) : gf (ip_obj (mk I J R Z) s) 7 3 K = K (.ref (s + 2)) := (gf_mk (f := s + 2) (by have := h.1.1; omega) (hS0 h) rfl).trans (by rw [show s + 2 = (s + 2 - 3) + 3 by have := h.1.1; omega]; rfl)
theorem gS4 {s : Nat} {K : Value → Prop} (h : isS s) : gf (ip_obj (mk I J R Z) s) 7 4 K = K (.ref (s + 3)) := (gf_mk (f := s + 3) (by have := h.1.1; omega) (hS0 h) rfl).trans (by rw [show s + 3 = (s + 3 - 3) + 3 by have := h.1.1; omega]; rfl)
theorem gS5 {s : Nat} {K : Value → Prop} (h : isS s) : gf (ip_obj (mk I J R Z) s) 7 5 K = K (.ref (s + 4)) := (gf_mk (f := s + 4) (by have := h.1.1; omega) (hS0 h) rfl).trans (by rw [show s + 4 = (s + 4 - 3) + 3 by have := h.1.1; omega]; rfl)
theorem gS6 {s : Nat} {K : Value → Prop} (h : isS s) : gf (ip_obj (mk I J R Z) s) 7 6 K = K (.ref (s + 5)) := (gf_mk (f := s + 5) (by have := h.1.1; omega) (hS0 h) rfl).trans (by rw [show s + 5 = (s + 5 - 3) + 3 by have := h.1.1; omega]; rfl)
theorem gS7 {s : Nat} {K : Value → Prop} (h : isS s) : gf (ip_obj (mk I J R Z) s) 7 7 K = K (.ref (s + 6)) := (gf_mk (f := s + 6) (by have := h.1.1; omega) (hS0 h) rfl).trans (by rw [show s + 6 = (s + 6 - 3) + 3 by have := h.1.1; omega]; rfl)
theorem gS8 {s : Nat} {K : Value → Prop} (h : isS s) : gf (ip_obj (mk I J R Z) s) 7 8 K = K (.ref (s + 7)) := (gf_mk (f := s + 7) (by have := h.1.1; omega) (hS0 h) rfl).trans (by rw [show s + 7 = (s + 7 - 3) + 3 by have := h.1.1; omega]; rfl)
theorem gS9 {s : Nat} {K : Value → Prop} (h : isS s) : gf (ip_obj (mk I J R Z) s) 7 9 K = K (.ref (s + 8)) := (gf_mk (f := s + 8) (by have := h.1.1; omega) (hS0 h) rfl).trans (by rw [show s + 8 = (s + 8 - 3) + 3 by have := h.1.1; omega]; rfl)
theorem gS10 {s : Nat} {K : Value → Prop} (h : isS s) : gf (ip_obj (mk I J R Z) s) 7 10 K = K (.ref (s + 9)) := (gf_mk (f := s + 9) (by have := h.1.1; omega) (hS0 h) rfl).trans (by rw [show s + 9 = (s + 9 - 3) + 3 by have := h.1.1; omega]; rfl)
theorem gS11 {s : Nat} {K : Value → Prop} (h : isS s) : gf (ip_obj (mk I J R Z) s) 7 11 K = K (.ref (s + 10)) := (gf_mk (f := s + 10) (by have := h.1.1; omega) (hS0 h) rfl).trans (by rw [show s + 10 = (s + 10 - 3) + 3 by have := h.1.1; omega]; rfl)
theorem gS12 {s : Nat} {K : Value → Prop} (h : isS s) : gf (ip_obj (mk I J R Z) s) 7 12 K = K (.ref (s + 11)) := (gf_mk (f := s + 11) (by have := h.1.1; omega) (hS0 h) rfl).trans (by rw [show s + 11 = (s + 11 - 3) + 3 by have := h.1.1; omega]; rfl)
theorem pS0 {s k : Nat} {x : Int32} {K : Hp → Prop} (h : isS s) : sf (mk I J R Z) s 7 0 k (.int x) K = (ip_fit k (.int x) = true ∧ K (mk (st I s (upd (I s) 0 x)) J R Z)) := sfI (by have := h.1.1; omega) (hS0 h) rfl
theorem pS1 {s k : Nat} {x : Int32} {K : Hp → Prop} (h : isS s) : sf (mk I J R Z) s 7 1 k (.int x) K = (ip_fit k (.int x) = true ∧ K (mk (st I s (upd (I s) 1 x)) J R Z)) := sfI (by have := h.1.1; omega) (hS0 h) rfl
theorem rcS {s : Nat} {l : List Value} (h : isS s) : ip_rc (mk I J R Z) 7 (.ref s :: l) = true := rcM (by have := h.1.1; omega) (hS0 h)
theorem hS1 {s : Nat} (h : isS s) : SHT[s + 1 - 64]? = some (0, 40, []) := at_drop (j := 1) h.2 (by decide) (by have := h.1.1; omega)
theorem giS1 {s : Nat} {i : Int32} {K : Int32 → Prop} (h : isS s) : gi L xs (mk I J R Z) 0 (s + 1) i K = (ip_in i 40 = true ∧ K (I (s + 1) i.toNatClampNeg)) := giM (by have := h.1.1; omega) (hS1 h) (Or.inl rfl)
theorem siS1 {s : Nat} {i x : Int32} {K : Hp → Prop} (h : isS s) : si (mk I J R Z) 0 (s + 1) i x K = (ip_in i 40 = true ∧ K (mk (st I (s + 1) (upd (I (s + 1)) i.toNatClampNeg x)) J R Z)) := siM (by have := h.1.1; omega) (hS1 h) (Or.inl rfl)
theorem hS2 {s : Nat} (h : isS s) : SHT[s + 2 - 64]? = some (0, 40, []) := at_drop (j := 2) h.2 (by decide) (by have := h.1.1; omega)
theorem giS2 {s : Nat} {i : Int32} {K : Int32 → Prop} (h : isS s) : gi L xs (mk I J R Z) 0 (s + 2) i K = (ip_in i 40 = true ∧ K (I (s + 2) i.toNatClampNeg)) := giM (by have := h.1.1; omega) (hS2 h) (Or.inl rfl)
theorem siS2 {s : Nat} {i x : Int32} {K : Hp → Prop} (h : isS s) : si (mk I J R Z) 0 (s + 2) i x K = (ip_in i 40 = true ∧ K (mk (st I (s + 2) (upd (I (s + 2)) i.toNatClampNeg x)) J R Z)) := siM (by have := h.1.1; omega) (hS2 h) (Or.inl rfl)
theorem hS3 {s : Nat} (h : isS s) : SHT[s + 3 - 64]? = some (0, 40, []) := at_drop (j := 3) h.2 (by decide) (by have := h.1.1; omega)
theorem giS3 {s : Nat} {i : Int32} {K : Int32 → Prop} (h : isS s) : gi L xs (mk I J R Z) 0 (s + 3) i K = (ip_in i 40 = true ∧ K (I (s + 3) i.toNatClampNeg)) := giM (by have := h.1.1; omega) (hS3 h) (Or.inl rfl)
theorem siS3 {s : Nat} {i x : Int32} {K : Hp → Prop} (h : isS s) : si (mk I J R Z) 0 (s + 3) i x K = (ip_in i 40 = true ∧ K (mk (st I (s + 3) (upd (I (s + 3)) i.toNatClampNeg x)) J R Z)) := siM (by have := h.1.1; omega) (hS3 h) (Or.inl rfl)
theorem hS4 {s : Nat} (h : isS s) : SHT[s + 4 - 64]? = some (0, 40, []) := at_drop (j := 4) h.2 (by decide) (by have := h.1.1; omega)
theorem giS4 {s : Nat} {i : Int32} {K : Int32 → Prop} (h : isS s) : gi L xs (mk I J R Z) 0 (s + 4) i K = (ip_in i 40 = true ∧ K (I (s + 4) i.toNatClampNeg)) := giM (by have := h.1.1; omega) (hS4 h) (Or.inl rfl)
theorem siS4 {s : Nat} {i x : Int32} {K : Hp → Prop} (h : isS s) : si (mk I J R Z) 0 (s + 4) i x K = (ip_in i 40 = true ∧ K (mk (st I (s + 4) (upd (I (s + 4)) i.toNatClampNeg x)) J R Z)) := siM (by have := h.1.1; omega) (hS4 h) (Or.inl rfl)
theorem hS5 {s : Nat} (h : isS s) : SHT[s + 5 - 64]? = some (0, 40, []) := at_drop (j := 5) h.2 (by decide) (by have := h.1.1; omega)
theorem giS5 {s : Nat} {i : Int32} {K : Int32 → Prop} (h : isS s) : gi L xs (mk I J R Z) 0 (s + 5) i K = (ip_in i 40 = true ∧ K (I (s + 5) i.toNatClampNeg)) := giM (by have := h.1.1; omega) (hS5 h) (Or.inl rfl)
theorem siS5 {s : Nat} {i x : Int32} {K : Hp → Prop} (h : isS s) : si (mk I J R Z) 0 (s + 5) i x K = (ip_in i 40 = true ∧ K (mk (st I (s + 5) (upd (I (s + 5)) i.toNatClampNeg x)) J R Z)) := siM (by have := h.1.1; omega) (hS5 h) (Or.inl rfl)
theorem hS6 {s : Nat} (h : isS s) : SHT[s + 6 - 64]? = some (0, 40, []) := at_drop (j := 6) h.2 (by decide) (by have := h.1.1; omega)
theorem giS6 {s : Nat} {i : Int32} {K : Int32 → Prop} (h : isS s) : gi L xs (mk I J R Z) 0 (s + 6) i K = (ip_in i 40 = true ∧ K (I (s + 6) i.toNatClampNeg)) := giM (by have := h.1.1; omega) (hS6 h) (Or.inl rfl)
theorem siS6 {s : Nat} {i x : Int32} {K : Hp → Prop} (h : isS s) : si (mk I J R Z) 0 (s + 6) i x K = (ip_in i 40 = true ∧ K (mk (st I (s + 6) (upd (I (s + 6)) i.toNatClampNeg x)) J R Z)) := siM (by have := h.1.1; omega) (hS6 h) (Or.inl rfl)
theorem hS7 {s : Nat} (h : isS s) : SHT[s + 7 - 64]? = some (0, 5, []) := at_drop (j := 7) h.2 (by decide) (by have := h.1.1; omega)
theorem giS7 {s : Nat} {i : Int32} {K : Int32 → Prop} (h : isS s) : gi L xs (mk I J R Z) 0 (s + 7) i K = (ip_in i 5 = true ∧ K (I (s + 7) i.toNatClampNeg)) := giM (by have := h.1.1; omega) (hS7 h) (Or.inl rfl)
theorem siS7 {s : Nat} {i x : Int32} {K : Hp → Prop} (h : isS s) : si (mk I J R Z) 0 (s + 7) i x K = (ip_in i 5 = true ∧ K (mk (st I (s + 7) (upd (I (s + 7)) i.toNatClampNeg x)) J R Z)) := siM (by have := h.1.1; omega) (hS7 h) (Or.inl rfl)
theorem hS8 {s : Nat} (h : isS s) : SHT[s + 8 - 64]? = some (0, 20, []) := at_drop (j := 8) h.2 (by decide) (by have := h.1.1; omega)
theorem giS8 {s : Nat} {i : Int32} {K : Int32 → Prop} (h : isS s) : gi L xs (mk I J R Z) 0 (s + 8) i K = (ip_in i 20 = true ∧ K (I (s + 8) i.toNatClampNeg)) := giM (by have := h.1.1; omega) (hS8 h) (Or.inl rfl)
theorem siS8 {s : Nat} {i x : Int32} {K : Hp → Prop} (h : isS s) : si (mk I J R Z) 0 (s + 8) i x K = (ip_in i 20 = true ∧ K (mk (st I (s + 8) (upd (I (s + 8)) i.toNatClampNeg x)) J R Z)) := siM (by have := h.1.1; omega) (hS8 h) (Or.inl rfl)
theorem hS9 {s : Nat} (h : isS s) : SHT[s + 9 - 64]? = some (0, 8, []) := at_drop (j := 9) h.2 (by decide) (by have := h.1.1; omega)
theorem giS9 {s : Nat} {i : Int32} {K : Int32 → Prop} (h : isS s) : gi L xs (mk I J R Z) 0 (s + 9) i K = (ip_in i 8 = true ∧ K (I (s + 9) i.toNatClampNeg)) := giM (by have := h.1.1; omega) (hS9 h) (Or.inl rfl)
theorem siS9 {s : Nat} {i x : Int32} {K : Hp → Prop} (h : isS s) : si (mk I J R Z) 0 (s + 9) i x K = (ip_in i 8 = true ∧ K (mk (st I (s + 9) (upd (I (s + 9)) i.toNatClampNeg x)) J R Z)) := siM (by have := h.1.1; omega) (hS9 h) (Or.inl rfl)
theorem hS10 {s : Nat} (h : isS s) : SHT[s + 10 - 64]? = some (0, 8, []) := at_drop (j := 10) h.2 (by decide) (by have := h.1.1; omega)
theorem giS10 {s : Nat} {i : Int32} {K : Int32 → Prop} (h : isS s) : gi L xs (mk I J R Z) 0 (s + 10) i K = (ip_in i 8 = true ∧ K (I (s + 10) i.toNatClampNeg)) := giM (by have := h.1.1; omega) (hS10 h) (Or.inl rfl)
theorem siS10 {s : Nat} {i x : Int32} {K : Hp → Prop} (h : isS s) : si (mk I J R Z) 0 (s + 10) i x K = (ip_in i 8 = true ∧ K (mk (st I (s + 10) (upd (I (s + 10)) i.toNatClampNeg x)) J R Z)) := siM (by have := h.1.1; omega) (hS10 h) (Or.inl rfl)
theorem hS11 {s : Nat} (h : isS s) : SHT[s + 11 - 64]? = some (0, 8, []) := at_drop (j := 11) h.2 (by decide) (by have := h.1.1; omega)
theorem giS11 {s : Nat} {i : Int32} {K : Int32 → Prop} (h : isS s) : gi L xs (mk I J R Z) 0 (s + 11) i K = (ip_in i 8 = true ∧ K (I (s + 11) i.toNatClampNeg)) := giM (by have := h.1.1; omega) (hS11 h) (Or.inl rfl)
theorem siS11 {s : Nat} {i x : Int32} {K : Hp → Prop} (h : isS s) : si (mk I J R Z) 0 (s + 11) i x K = (ip_in i 8 = true ∧ K (mk (st I (s + 11) (upd (I (s + 11)) i.toNatClampNeg x)) J R Z)) := siM (by have := h.1.1; omega) (hS11 h) (Or.inl rfl)
theorem gT0 {t n : Nat} {K : Value → Prop} (h : isT t n) : gf (ip_obj (mk I J R Z) t) 9 0 K = K (.int (I t 0)) := gf_mk (f := 0) (by have := h.1.1; omega) (hT0 h) rfl
theorem gT1 {t n : Nat} {K : Value → Prop} (h : isT t n) : gf (ip_obj (mk I J R Z) t) 9 1 K = K (.ref (t + 1)) := (gf_mk (f := t + 1) (by have := h.1.1; omega) (hT0 h) rfl).trans (by rw [show t + 1 = (t + 1 - 3) + 3 by have := h.1.1; omega]; rfl)
theorem gT2 {t n : Nat} {K : Value → Prop} (h : isT t n) : gf (ip_obj (mk I J R Z) t) 9 2 K = K (.ref (t + 2)) := (gf_mk (f := t + 2) (by have := h.1.1; omega) (hT0 h) rfl).trans (by rw [show t + 2 = (t + 2 - 3) + 3 by have := h.1.1; omega]; rfl)
theorem gT3 {t n : Nat} {K : Value → Prop} (h : isT t n) : gf (ip_obj (mk I J R Z) t) 9 3 K = K (.ref (t + 3)) := (gf_mk (f := t + 3) (by have := h.1.1; omega) (hT0 h) rfl).trans (by rw [show t + 3 = (t + 3 - 3) + 3 by have := h.1.1; omega]; rfl)
theorem pT0 {t n k : Nat} {x : Int32} {K : Hp → Prop} (h : isT t n) : sf (mk I J R Z) t 9 0 k (.int x) K = (ip_fit k (.int x) = true ∧ K (mk (st I t (upd (I t) 0 x)) J R Z)) := sfI (by have := h.1.1; omega) (hT0 h) rfl
theorem rcT {t n : Nat} {l : List Value} (h : isT t n) : ip_rc (mk I J R Z) 9 (.ref t :: l) = true := rcM (by have := h.1.1; omega) (hT0 h)
theorem giT1 {t n : Nat} {i : Int32} {K : Int32 → Prop} (h : isT t n) : gi L xs (mk I J R Z) 0 (t + 1) i K = (ip_in i n = true ∧ K (I (t + 1) i.toNatClampNeg)) := giM (by have := h.1.1; omega) (at_drop (j := 1) h.2.2 (by decide) (by have := h.1.1; omega)) (Or.inl rfl)
theorem siT1 {t n : Nat} {i x : Int32} {K : Hp → Prop} (h : isT t n) : si (mk I J R Z) 0 (t + 1) i x K = (ip_in i n = true ∧ K (mk (st I (t + 1) (upd (I (t + 1)) i.toNatClampNeg x)) J R Z)) := siM (by have := h.1.1; omega) (at_drop (j := 1) h.2.2 (by decide) (by have := h.1.1; omega)) (Or.inl rfl)
theorem alT1 {t n : Nat} {K : Int32 → Prop} (h : isT t n) : al L (mk I J R Z) (t + 1) K = K (nI n) := alM (by have := h.1.1; omega) (at_drop (j := 1) h.2.2 (by decide) (by have := h.1.1; omega)) (by decide)
theorem giT2 {t n : Nat} {i : Int32} {K : Int32 → Prop} (h : isT t n) : gi L xs (mk I J R Z) 0 (t + 2) i K = (ip_in i n = true ∧ K (I (t + 2) i.toNatClampNeg)) := giM (by have := h.1.1; omega) (at_drop (j := 2) h.2.2 (by decide) (by have := h.1.1; omega)) (Or.inl rfl)
theorem siT2 {t n : Nat} {i x : Int32} {K : Hp → Prop} (h : isT t n) : si (mk I J R Z) 0 (t + 2) i x K = (ip_in i n = true ∧ K (mk (st I (t + 2) (upd (I (t + 2)) i.toNatClampNeg x)) J R Z)) := siM (by have := h.1.1; omega) (at_drop (j := 2) h.2.2 (by decide) (by have := h.1.1; omega)) (Or.inl rfl)
theorem giT3 {t n : Nat} {i : Int32} {K : Int32 → Prop} (h : isT t n) : gi L xs (mk I J R Z) 0 (t + 3) i K = (ip_in i n = true ∧ K (I (t + 3) i.toNatClampNeg)) := giM (by have := h.1.1; omega) (at_drop (j := 3) h.2.2 (by decide) (by have := h.1.1; omega)) (Or.inl rfl)
theorem siT3 {t n : Nat} {i x : Int32} {K : Hp → Prop} (h : isT t n) : si (mk I J R Z) 0 (t + 3) i x K = (ip_in i n = true ∧ K (mk (st I (t + 3) (upd (I (t + 3)) i.toNatClampNeg x)) J R Z)) := siM (by have := h.1.1; omega) (at_drop (j := 3) h.2.2 (by decide) (by have := h.1.1; omega)) (Or.inl rfl)
theorem gG0 {g : Nat} {K : Value → Prop} (h : isG g) : gf (ip_obj (mk I J R Z) g) 0 0 K = K (.int (I g 0)) := gf_mk (f := 0) (by have := h.1.1; omega) (hG0 h) rfl
theorem pG0 {g k : Nat} {x : Int32} {K : Hp → Prop} (h : isG g) : sf (mk I J R Z) g 0 0 k (.int x) K = (ip_fit k (.int x) = true ∧ K (mk (st I g (upd (I g) 0 x)) J R Z)) := sfI (by have := h.1.1; omega) (hG0 h) rfl
theorem gG1 {g : Nat} {K : Value → Prop} (h : isG g) : gf (ip_obj (mk I J R Z) g) 0 1 K = K (.int (I g 1)) := gf_mk (f := 0) (by have := h.1.1; omega) (hG0 h) rfl
theorem pG1 {g k : Nat} {x : Int32} {K : Hp → Prop} (h : isG g) : sf (mk I J R Z) g 0 1 k (.int x) K = (ip_fit k (.int x) = true ∧ K (mk (st I g (upd (I g) 1 x)) J R Z)) := sfI (by have := h.1.1; omega) (hG0 h) rfl
theorem gG2 {g : Nat} {K : Value → Prop} (h : isG g) : gf (ip_obj (mk I J R Z) g) 0 2 K = K (.int (I g 2)) := gf_mk (f := 0) (by have := h.1.1; omega) (hG0 h) rfl
theorem pG2 {g k : Nat} {x : Int32} {K : Hp → Prop} (h : isG g) : sf (mk I J R Z) g 0 2 k (.int x) K = (ip_fit k (.int x) = true ∧ K (mk (st I g (upd (I g) 2 x)) J R Z)) := sfI (by have := h.1.1; omega) (hG0 h) rfl
theorem rcG {g : Nat} {l : List Value} (h : isG g) : ip_rc (mk I J R Z) 0 (.ref g :: l) = true := rcM (by have := h.1.1; omega) (hG0 h)
theorem hG1 {g : Nat} (h : isG g) : SHT[g + 1 - 64]? = some (0, 8, []) := at_drop (j := 1) h.2 (by decide) (by have := h.1.1; omega)
theorem gG3 {g : Nat} {K : Value → Prop} (h : isG g) : gf (ip_obj (mk I J R Z) g) 0 3 K = K (.ref (g + 1)) := (gf_mk (f := g + 1) (by have := h.1.1; omega) (hG0 h) rfl).trans (by rw [show g + 1 = (g + 1 - 3) + 3 by have := h.1.1; omega]; rfl)
theorem giG1 {g : Nat} {i : Int32} {K : Int32 → Prop} (h : isG g) : gi L xs (mk I J R Z) 0 (g + 1) i K = (ip_in i 8 = true ∧ K (I (g + 1) i.toNatClampNeg)) := giM (by have := h.1.1; omega) (hG1 h) (Or.inl rfl)
theorem siG1 {g : Nat} {i x : Int32} {K : Hp → Prop} (h : isG g) : si (mk I J R Z) 0 (g + 1) i x K = (ip_in i 8 = true ∧ K (mk (st I (g + 1) (upd (I (g + 1)) i.toNatClampNeg x)) J R Z)) := siM (by have := h.1.1; omega) (hG1 h) (Or.inl rfl)
theorem hG2 {g : Nat} (h : isG g) : SHT[g + 2 - 64]? = some (0, 8, []) := at_drop (j := 2) h.2 (by decide) (by have := h.1.1; omega)
theorem gG4 {g : Nat} {K : Value → Prop} (h : isG g) : gf (ip_obj (mk I J R Z) g) 0 4 K = K (.ref (g + 2)) := (gf_mk (f := g + 2) (by have := h.1.1; omega) (hG0 h) rfl).trans (by rw [show g + 2 = (g + 2 - 3) + 3 by have := h.1.1; omega]; rfl)
theorem giG2 {g : Nat} {i : Int32} {K : Int32 → Prop} (h : isG g) : gi L xs (mk I J R Z) 0 (g + 2) i K = (ip_in i 8 = true ∧ K (I (g + 2) i.toNatClampNeg)) := giM (by have := h.1.1; omega) (hG2 h) (Or.inl rfl)
theorem siG2 {g : Nat} {i x : Int32} {K : Hp → Prop} (h : isG g) : si (mk I J R Z) 0 (g + 2) i x K = (ip_in i 8 = true ∧ K (mk (st I (g + 2) (upd (I (g + 2)) i.toNatClampNeg x)) J R Z)) := siM (by have := h.1.1; omega) (hG2 h) (Or.inl rfl)
theorem hG3 {g : Nat} (h : isG g) : SHT[g + 3 - 64]? = some (0, 8, []) := at_drop (j := 3) h.2 (by decide) (by have := h.1.1; omega)
theorem gG5 {g : Nat} {K : Value → Prop} (h : isG g) : gf (ip_obj (mk I J R Z) g) 0 5 K = K (.ref (g + 3)) := (gf_mk (f := g + 3) (by have := h.1.1; omega) (hG0 h) rfl).trans (by rw [show g + 3 = (g + 3 - 3) + 3 by have := h.1.1; omega]; rfl)
theorem giG3 {g : Nat} {i : Int32} {K : Int32 → Prop} (h : isG g) : gi L xs (mk I J R Z) 0 (g + 3) i K = (ip_in i 8 = true ∧ K (I (g + 3) i.toNatClampNeg)) := giM (by have := h.1.1; omega) (hG3 h) (Or.inl rfl)
theorem siG3 {g : Nat} {i x : Int32} {K : Hp → Prop} (h : isG g) : si (mk I J R Z) 0 (g + 3) i x K = (ip_in i 8 = true ∧ K (mk (st I (g + 3) (upd (I (g + 3)) i.toNatClampNeg x)) J R Z)) := siM (by have := h.1.1; omega) (hG3 h) (Or.inl rfl)
theorem hG4 {g : Nat} (h : isG g) : SHT[g + 4 - 64]? = some (0, 8, []) := at_drop (j := 4) h.2 (by decide) (by have := h.1.1; omega)
theorem gG6 {g : Nat} {K : Value → Prop} (h : isG g) : gf (ip_obj (mk I J R Z) g) 0 6 K = K (.ref (g + 4)) := (gf_mk (f := g + 4) (by have := h.1.1; omega) (hG0 h) rfl).trans (by rw [show g + 4 = (g + 4 - 3) + 3 by have := h.1.1; omega]; rfl)
theorem giG4 {g : Nat} {i : Int32} {K : Int32 → Prop} (h : isG g) : gi L xs (mk I J R Z) 0 (g + 4) i K = (ip_in i 8 = true ∧ K (I (g + 4) i.toNatClampNeg)) := giM (by have := h.1.1; omega) (hG4 h) (Or.inl rfl)
theorem siG4 {g : Nat} {i x : Int32} {K : Hp → Prop} (h : isG g) : si (mk I J R Z) 0 (g + 4) i x K = (ip_in i 8 = true ∧ K (mk (st I (g + 4) (upd (I (g + 4)) i.toNatClampNeg x)) J R Z)) := siM (by have := h.1.1; omega) (hG4 h) (Or.inl rfl)
theorem hG5 {g : Nat} (h : isG g) : SHT[g + 5 - 64]? = some (0, 8, []) := at_drop (j := 5) h.2 (by decide) (by have := h.1.1; omega)
theorem gG7 {g : Nat} {K : Value → Prop} (h : isG g) : gf (ip_obj (mk I J R Z) g) 0 7 K = K (.ref (g + 5)) := (gf_mk (f := g + 5) (by have := h.1.1; omega) (hG0 h) rfl).trans (by rw [show g + 5 = (g + 5 - 3) + 3 by have := h.1.1; omega]; rfl)
theorem giG5 {g : Nat} {i : Int32} {K : Int32 → Prop} (h : isG g) : gi L xs (mk I J R Z) 0 (g + 5) i K = (ip_in i 8 = true ∧ K (I (g + 5) i.toNatClampNeg)) := giM (by have := h.1.1; omega) (hG5 h) (Or.inl rfl)
theorem siG5 {g : Nat} {i x : Int32} {K : Hp → Prop} (h : isG g) : si (mk I J R Z) 0 (g + 5) i x K = (ip_in i 8 = true ∧ K (mk (st I (g + 5) (upd (I (g + 5)) i.toNatClampNeg x)) J R Z)) := siM (by have := h.1.1; omega) (hG5 h) (Or.inl rfl)
theorem hG6 {g : Nat} (h : isG g) : SHT[g + 6 - 64]? = some (1, 8, []) := at_drop (j := 6) h.2 (by decide) (by have := h.1.1; omega)
theorem gG8 {g : Nat} {K : Value → Prop} (h : isG g) : gf (ip_obj (mk I J R Z) g) 0 8 K = K (.ref (g + 6)) := (gf_mk (f := g + 6) (by have := h.1.1; omega) (hG0 h) rfl).trans (by rw [show g + 6 = (g + 6 - 3) + 3 by have := h.1.1; omega]; rfl)
theorem glG6 {g : Nat} {i : Int32} {K : Int64 → Prop} (h : isG g) : gl (mk I J R Z) (g + 6) i K = (ip_in i 8 = true ∧ K (J (g + 6) i.toNatClampNeg)) := glM (by have := h.1.1; omega) (hG6 h)
theorem slG6 {g : Nat} {i : Int32} {x : Int64} {K : Hp → Prop} (h : isG g) : sl (mk I J R Z) (g + 6) i x K = (ip_in i 8 = true ∧ K (mk I (st J (g + 6) (vp_updL (J (g + 6)) i.toNatClampNeg x)) R Z)) := slM (by have := h.1.1; omega) (hG6 h)
theorem rc64 {l : List Value} : ip_rc (mk I J R Z) 10 (.ref 64 :: l) = true := rcM (by decide) rfl
theorem g64_0 {K : Value → Prop} : gf (ip_obj (mk I J R Z) 64) 10 0 K = K (.ref 65) := gf_mk (f := 65) (by decide) rfl rfl
theorem g64_1 {K : Value → Prop} : gf (ip_obj (mk I J R Z) 64) 10 1 K = K (.ref 72) := gf_mk (f := 72) (by decide) rfl rfl
theorem g64_2 {K : Value → Prop} : gf (ip_obj (mk I J R Z) 64) 10 2 K = K (.ref 76) := gf_mk (f := 76) (by decide) rfl rfl
theorem g64_3 {K : Value → Prop} : gf (ip_obj (mk I J R Z) 64) 10 3 K = K (.ref 83) := gf_mk (f := 83) (by decide) rfl rfl
theorem g64_4 {K : Value → Prop} : gf (ip_obj (mk I J R Z) 64) 10 4 K = K (.ref 90) := gf_mk (f := 90) (by decide) rfl rfl
theorem g64_5 {K : Value → Prop} : gf (ip_obj (mk I J R Z) 64) 10 5 K = K (.ref 94) := gf_mk (f := 94) (by decide) rfl rfl
theorem g64_6 {K : Value → Prop} : gf (ip_obj (mk I J R Z) 64) 10 6 K = K (.ref 98) := gf_mk (f := 98) (by decide) rfl rfl
theorem g64_7 {K : Value → Prop} : gf (ip_obj (mk I J R Z) 64) 10 7 K = K (.ref 102) := gf_mk (f := 102) (by decide) rfl rfl
theorem g64_8 {K : Value → Prop} : gf (ip_obj (mk I J R Z) 64) 10 8 K = K (.ref 114) := gf_mk (f := 114) (by decide) rfl rfl
theorem g64_9 {K : Value → Prop} : gf (ip_obj (mk I J R Z) 64) 10 9 K = K (.ref 128) := gf_mk (f := 128) (by decide) rfl rfl
theorem g64_10 {K : Value → Prop} : gf (ip_obj (mk I J R Z) 64) 10 10 K = K (.ref 126) := gf_mk (f := 126) (by decide) rfl rfl
theorem g64_11 {K : Value → Prop} : gf (ip_obj (mk I J R Z) 64) 10 11 K = K (.ref 129) := gf_mk (f := 129) (by decide) rfl rfl
theorem g64_12 {K : Value → Prop} : gf (ip_obj (mk I J R Z) 64) 10 12 K = K (.ref 335) := gf_mk (f := 335) (by decide) rfl rfl
theorem rc65 {l : List Value} : ip_rc (mk I J R Z) 8 (.ref 65 :: l) = true := rcM (by decide) rfl
theorem g65_0 {K : Value → Prop} : gf (ip_obj (mk I J R Z) 65) 8 0 K = K (.ref 66) := gf_mk (f := 66) (by decide) rfl rfl
theorem g65_1 {K : Value → Prop} : gf (ip_obj (mk I J R Z) 65) 8 1 K = K (.int (I 65 1)) := gf_mk (f := 0) (by decide) rfl rfl
theorem p65_1 {k : Nat} {x : Int32} {K : Hp → Prop} : sf (mk I J R Z) 65 8 1 k (.int x) K = (ip_fit k (.int x) = true ∧ K (mk (st I 65 (upd (I 65) 1 x)) J R Z)) := sfI (by decide) rfl rfl
theorem g65_2 {K : Value → Prop} : gf (ip_obj (mk I J R Z) 65) 8 2 K = K (.ref 67) := gf_mk (f := 67) (by decide) rfl rfl
theorem g65_3 {K : Value → Prop} : gf (ip_obj (mk I J R Z) 65) 8 3 K = K (.ref 68) := gf_mk (f := 68) (by decide) rfl rfl
theorem g65_4 {K : Value → Prop} : gf (ip_obj (mk I J R Z) 65) 8 4 K = K (.ref 69) := gf_mk (f := 69) (by decide) rfl rfl
theorem g65_5 {K : Value → Prop} : gf (ip_obj (mk I J R Z) 65) 8 5 K = K (.ref 70) := gf_mk (f := 70) (by decide) rfl rfl
theorem g65_6 {K : Value → Prop} : gf (ip_obj (mk I J R Z) 65) 8 6 K = K (.ref 71) := gf_mk (f := 71) (by decide) rfl rfl
theorem g65_7 {K : Value → Prop} : gf (ip_obj (mk I J R Z) 65) 8 7 K = K (.int (I 65 7)) := gf_mk (f := 0) (by decide) rfl rfl
theorem p65_7 {k : Nat} {x : Int32} {K : Hp → Prop} : sf (mk I J R Z) 65 8 7 k (.int x) K = (ip_fit k (.int x) = true ∧ K (mk (st I 65 (upd (I 65) 7 x)) J R Z)) := sfI (by decide) rfl rfl
theorem gi66 {i : Int32} {K : Int32 → Prop} : gi L xs (mk I J R Z) 2 66 i K = (ip_in i 1000 = true ∧ K (I 66 i.toNatClampNeg)) := giM (by decide) rfl (Or.inr (Or.inl rfl))
theorem si66 {i x : Int32} {K : Hp → Prop} : si (mk I J R Z) 2 66 i x K = (ip_in i 1000 = true ∧ K (mk (st I 66 (upd (I 66) i.toNatClampNeg (na 2 x))) J R Z)) := siM (by decide) rfl (Or.inr (Or.inl rfl))
theorem gi67 {i : Int32} {K : Int32 → Prop} : gi L xs (mk I J R Z) 0 67 i K = (ip_in i 1001 = true ∧ K (I 67 i.toNatClampNeg)) := giM (by decide) rfl (Or.inl rfl)
theorem si67 {i x : Int32} {K : Hp → Prop} : si (mk I J R Z) 0 67 i x K = (ip_in i 1001 = true ∧ K (mk (st I 67 (upd (I 67) i.toNatClampNeg (x))) J R Z)) := siM (by decide) rfl (Or.inl rfl)
theorem gi68 {i : Int32} {K : Int32 → Prop} : gi L xs (mk I J R Z) 0 68 i K = (ip_in i 1001 = true ∧ K (I 68 i.toNatClampNeg)) := giM (by decide) rfl (Or.inl rfl)
theorem si68 {i x : Int32} {K : Hp → Prop} : si (mk I J R Z) 0 68 i x K = (ip_in i 1001 = true ∧ K (mk (st I 68 (upd (I 68) i.toNatClampNeg (x))) J R Z)) := siM (by decide) rfl (Or.inl rfl)
theorem gi69 {i : Int32} {K : Int32 → Prop} : gi L xs (mk I J R Z) 0 69 i K = (ip_in i 1001 = true ∧ K (I 69 i.toNatClampNeg)) := giM (by decide) rfl (Or.inl rfl)
theorem si69 {i x : Int32} {K : Hp → Prop} : si (mk I J R Z) 0 69 i x K = (ip_in i 1001 = true ∧ K (mk (st I 69 (upd (I 69) i.toNatClampNeg (x))) J R Z)) := siM (by decide) rfl (Or.inl rfl)
theorem gl70 {i : Int32} {K : Int64 → Prop} : gl (mk I J R Z) 70 i K = (ip_in i 1001 = true ∧ K (J 70 i.toNatClampNeg)) := glM (by decide) rfl
theorem sl70 {i : Int32} {x : Int64} {K : Hp → Prop} : sl (mk I J R Z) 70 i x K = (ip_in i 1001 = true ∧ K (mk I (st J 70 (vp_updL (J 70) i.toNatClampNeg x)) R Z)) := slM (by decide) rfl
theorem rc72 {l : List Value} : ip_rc (mk I J R Z) 4 (.ref 72 :: l) = true := rcM (by decide) rfl
theorem g72_0 {K : Value → Prop} : gf (ip_obj (mk I J R Z) 72) 4 0 K = K (.ref 65) := gf_mk (f := 65) (by decide) rfl rfl
theorem g72_1 {K : Value → Prop} : gf (ip_obj (mk I J R Z) 72) 4 1 K = K (.ref 73) := gf_mk (f := 73) (by decide) rfl rfl
theorem g72_2 {K : Value → Prop} : gf (ip_obj (mk I J R Z) 72) 4 2 K = K (.int (I 72 2)) := gf_mk (f := 0) (by decide) rfl rfl
theorem p72_2 {k : Nat} {x : Int32} {K : Hp → Prop} : sf (mk I J R Z) 72 4 2 k (.int x) K = (ip_fit k (.int x) = true ∧ K (mk (st I 72 (upd (I 72) 2 x)) J R Z)) := sfI (by decide) rfl rfl
theorem g72_3 {K : Value → Prop} : gf (ip_obj (mk I J R Z) 72) 4 3 K = K (.int (I 72 3)) := gf_mk (f := 0) (by decide) rfl rfl
theorem p72_3 {k : Nat} {x : Int32} {K : Hp → Prop} : sf (mk I J R Z) 72 4 3 k (.int x) K = (ip_fit k (.int x) = true ∧ K (mk (st I 72 (upd (I 72) 3 x)) J R Z)) := sfI (by decide) rfl rfl
theorem g72_4 {K : Value → Prop} : gf (ip_obj (mk I J R Z) 72) 4 4 K = K (.ref ((R 72 4).getD 29)) := gf_mk (f := 2) (by decide) rfl rfl
theorem p72_4 {k : Nat} {x : Nat} {K : Hp → Prop} : sf (mk I J R Z) 72 4 4 k (.ref x) K = (ip_fit k (.ref x) = true ∧ K (mk I J (st R 72 (va_up (R 72) 4 (some x))) Z)) := sfR (by decide) rfl rfl
theorem g72_5 {K : Value → Prop} : gf (ip_obj (mk I J R Z) 72) 4 5 K = K (.int (I 72 5)) := gf_mk (f := 0) (by decide) rfl rfl
theorem p72_5 {k : Nat} {x : Int32} {K : Hp → Prop} : sf (mk I J R Z) 72 4 5 k (.int x) K = (ip_fit k (.int x) = true ∧ K (mk (st I 72 (upd (I 72) 5 x)) J R Z)) := sfI (by decide) rfl rfl
theorem rc73 {l : List Value} : ip_rc (mk I J R Z) 2 (.ref 73 :: l) = true := rcM (by decide) rfl
theorem g73_0 {K : Value → Prop} : gf (ip_obj (mk I J R Z) 73) 2 0 K = K (.ref 74) := gf_mk (f := 74) (by decide) rfl rfl
theorem g73_1 {K : Value → Prop} : gf (ip_obj (mk I J R Z) 73) 2 1 K = K (.int (I 73 1)) := gf_mk (f := 0) (by decide) rfl rfl
theorem p73_1 {k : Nat} {x : Int32} {K : Hp → Prop} : sf (mk I J R Z) 73 2 1 k (.int x) K = (ip_fit k (.int x) = true ∧ K (mk (st I 73 (upd (I 73) 1 x)) J R Z)) := sfI (by decide) rfl rfl
theorem g73_2 {K : Value → Prop} : gf (ip_obj (mk I J R Z) 73) 2 2 K = K (.ref 75) := gf_mk (f := 75) (by decide) rfl rfl
theorem g73_3 {K : Value → Prop} : gf (ip_obj (mk I J R Z) 73) 2 3 K = K (.int (I 73 3)) := gf_mk (f := 0) (by decide) rfl rfl
theorem p73_3 {k : Nat} {x : Int32} {K : Hp → Prop} : sf (mk I J R Z) 73 2 3 k (.int x) K = (ip_fit k (.int x) = true ∧ K (mk (st I 73 (upd (I 73) 3 x)) J R Z)) := sfI (by decide) rfl rfl
theorem gi74 {i : Int32} {K : Int32 → Prop} : gi L xs (mk I J R Z) 0 74 i K = (ip_in i 1000 = true ∧ K (I 74 i.toNatClampNeg)) := giM (by decide) rfl (Or.inl rfl)
theorem si74 {i x : Int32} {K : Hp → Prop} : si (mk I J R Z) 0 74 i x K = (ip_in i 1000 = true ∧ K (mk (st I 74 (upd (I 74) i.toNatClampNeg (x))) J R Z)) := siM (by decide) rfl (Or.inl rfl)
theorem gi75 {i : Int32} {K : Int32 → Prop} : gi L xs (mk I J R Z) 0 75 i K = (ip_in i 64 = true ∧ K (I 75 i.toNatClampNeg)) := giM (by decide) rfl (Or.inl rfl)
theorem si75 {i x : Int32} {K : Hp → Prop} : si (mk I J R Z) 0 75 i x K = (ip_in i 64 = true ∧ K (mk (st I 75 (upd (I 75) i.toNatClampNeg (x))) J R Z)) := siM (by decide) rfl (Or.inl rfl)
theorem rc76 {l : List Value} : ip_rc (mk I J R Z) 0 (.ref 76 :: l) = true := rcM (by decide) rfl
theorem g76_0 {K : Value → Prop} : gf (ip_obj (mk I J R Z) 76) 0 0 K = K (.int (I 76 0)) := gf_mk (f := 0) (by decide) rfl rfl
theorem p76_0 {k : Nat} {x : Int32} {K : Hp → Prop} : sf (mk I J R Z) 76 0 0 k (.int x) K = (ip_fit k (.int x) = true ∧ K (mk (st I 76 (upd (I 76) 0 x)) J R Z)) := sfI (by decide) rfl rfl
theorem g76_1 {K : Value → Prop} : gf (ip_obj (mk I J R Z) 76) 0 1 K = K (.int (I 76 1)) := gf_mk (f := 0) (by decide) rfl rfl
theorem p76_1 {k : Nat} {x : Int32} {K : Hp → Prop} : sf (mk I J R Z) 76 0 1 k (.int x) K = (ip_fit k (.int x) = true ∧ K (mk (st I 76 (upd (I 76) 1 x)) J R Z)) := sfI (by decide) rfl rfl
theorem g76_2 {K : Value → Prop} : gf (ip_obj (mk I J R Z) 76) 0 2 K = K (.int (I 76 2)) := gf_mk (f := 0) (by decide) rfl rfl
theorem p76_2 {k : Nat} {x : Int32} {K : Hp → Prop} : sf (mk I J R Z) 76 0 2 k (.int x) K = (ip_fit k (.int x) = true ∧ K (mk (st I 76 (upd (I 76) 2 x)) J R Z)) := sfI (by decide) rfl rfl
theorem g76_3 {K : Value → Prop} : gf (ip_obj (mk I J R Z) 76) 0 3 K = K (.ref 77) := gf_mk (f := 77) (by decide) rfl rfl
theorem g76_4 {K : Value → Prop} : gf (ip_obj (mk I J R Z) 76) 0 4 K = K (.ref 78) := gf_mk (f := 78) (by decide) rfl rfl
theorem g76_5 {K : Value → Prop} : gf (ip_obj (mk I J R Z) 76) 0 5 K = K (.ref 79) := gf_mk (f := 79) (by decide) rfl rfl
theorem g76_6 {K : Value → Prop} : gf (ip_obj (mk I J R Z) 76) 0 6 K = K (.ref 80) := gf_mk (f := 80) (by decide) rfl rfl
theorem g76_7 {K : Value → Prop} : gf (ip_obj (mk I J R Z) 76) 0 7 K = K (.ref 81) := gf_mk (f := 81) (by decide) rfl rfl
theorem g76_8 {K : Value → Prop} : gf (ip_obj (mk I J R Z) 76) 0 8 K = K (.ref 82) := gf_mk (f := 82) (by decide) rfl rfl
theorem gi77 {i : Int32} {K : Int32 → Prop} : gi L xs (mk I J R Z) 0 77 i K = (ip_in i 8 = true ∧ K (I 77 i.toNatClampNeg)) := giM (by decide) rfl (Or.inl rfl)
theorem si77 {i x : Int32} {K : Hp → Prop} : si (mk I J R Z) 0 77 i x K = (ip_in i 8 = true ∧ K (mk (st I 77 (upd (I 77) i.toNatClampNeg (x))) J R Z)) := siM (by decide) rfl (Or.inl rfl)
theorem gi78 {i : Int32} {K : Int32 → Prop} : gi L xs (mk I J R Z) 0 78 i K = (ip_in i 8 = true ∧ K (I 78 i.toNatClampNeg)) := giM (by decide) rfl (Or.inl rfl)
theorem si78 {i x : Int32} {K : Hp → Prop} : si (mk I J R Z) 0 78 i x K = (ip_in i 8 = true ∧ K (mk (st I 78 (upd (I 78) i.toNatClampNeg (x))) J R Z)) := siM (by decide) rfl (Or.inl rfl)
theorem gi79 {i : Int32} {K : Int32 → Prop} : gi L xs (mk I J R Z) 0 79 i K = (ip_in i 8 = true ∧ K (I 79 i.toNatClampNeg)) := giM (by decide) rfl (Or.inl rfl)
theorem si79 {i x : Int32} {K : Hp → Prop} : si (mk I J R Z) 0 79 i x K = (ip_in i 8 = true ∧ K (mk (st I 79 (upd (I 79) i.toNatClampNeg (x))) J R Z)) := siM (by decide) rfl (Or.inl rfl)
theorem gi80 {i : Int32} {K : Int32 → Prop} : gi L xs (mk I J R Z) 0 80 i K = (ip_in i 8 = true ∧ K (I 80 i.toNatClampNeg)) := giM (by decide) rfl (Or.inl rfl)
theorem si80 {i x : Int32} {K : Hp → Prop} : si (mk I J R Z) 0 80 i x K = (ip_in i 8 = true ∧ K (mk (st I 80 (upd (I 80) i.toNatClampNeg (x))) J R Z)) := siM (by decide) rfl (Or.inl rfl)
theorem gi81 {i : Int32} {K : Int32 → Prop} : gi L xs (mk I J R Z) 0 81 i K = (ip_in i 8 = true ∧ K (I 81 i.toNatClampNeg)) := giM (by decide) rfl (Or.inl rfl)
theorem si81 {i x : Int32} {K : Hp → Prop} : si (mk I J R Z) 0 81 i x K = (ip_in i 8 = true ∧ K (mk (st I 81 (upd (I 81) i.toNatClampNeg (x))) J R Z)) := siM (by decide) rfl (Or.inl rfl)
theorem gl82 {i : Int32} {K : Int64 → Prop} : gl (mk I J R Z) 82 i K = (ip_in i 8 = true ∧ K (J 82 i.toNatClampNeg)) := glM (by decide) rfl
theorem sl82 {i : Int32} {x : Int64} {K : Hp → Prop} : sl (mk I J R Z) 82 i x K = (ip_in i 8 = true ∧ K (mk I (st J 82 (vp_updL (J 82) i.toNatClampNeg x)) R Z)) := slM (by decide) rfl
theorem rc83 {l : List Value} : ip_rc (mk I J R Z) 0 (.ref 83 :: l) = true := rcM (by decide) rfl
theorem g83_0 {K : Value → Prop} : gf (ip_obj (mk I J R Z) 83) 0 0 K = K (.int (I 83 0)) := gf_mk (f := 0) (by decide) rfl rfl
theorem p83_0 {k : Nat} {x : Int32} {K : Hp → Prop} : sf (mk I J R Z) 83 0 0 k (.int x) K = (ip_fit k (.int x) = true ∧ K (mk (st I 83 (upd (I 83) 0 x)) J R Z)) := sfI (by decide) rfl rfl
theorem g83_1 {K : Value → Prop} : gf (ip_obj (mk I J R Z) 83) 0 1 K = K (.int (I 83 1)) := gf_mk (f := 0) (by decide) rfl rfl
theorem p83_1 {k : Nat} {x : Int32} {K : Hp → Prop} : sf (mk I J R Z) 83 0 1 k (.int x) K = (ip_fit k (.int x) = true ∧ K (mk (st I 83 (upd (I 83) 1 x)) J R Z)) := sfI (by decide) rfl rfl
theorem g83_2 {K : Value → Prop} : gf (ip_obj (mk I J R Z) 83) 0 2 K = K (.int (I 83 2)) := gf_mk (f := 0) (by decide) rfl rfl
theorem p83_2 {k : Nat} {x : Int32} {K : Hp → Prop} : sf (mk I J R Z) 83 0 2 k (.int x) K = (ip_fit k (.int x) = true ∧ K (mk (st I 83 (upd (I 83) 2 x)) J R Z)) := sfI (by decide) rfl rfl
theorem g83_3 {K : Value → Prop} : gf (ip_obj (mk I J R Z) 83) 0 3 K = K (.ref 84) := gf_mk (f := 84) (by decide) rfl rfl
theorem g83_4 {K : Value → Prop} : gf (ip_obj (mk I J R Z) 83) 0 4 K = K (.ref 85) := gf_mk (f := 85) (by decide) rfl rfl
theorem g83_5 {K : Value → Prop} : gf (ip_obj (mk I J R Z) 83) 0 5 K = K (.ref 86) := gf_mk (f := 86) (by decide) rfl rfl
theorem g83_6 {K : Value → Prop} : gf (ip_obj (mk I J R Z) 83) 0 6 K = K (.ref 87) := gf_mk (f := 87) (by decide) rfl rfl
theorem g83_7 {K : Value → Prop} : gf (ip_obj (mk I J R Z) 83) 0 7 K = K (.ref 88) := gf_mk (f := 88) (by decide) rfl rfl
theorem g83_8 {K : Value → Prop} : gf (ip_obj (mk I J R Z) 83) 0 8 K = K (.ref 89) := gf_mk (f := 89) (by decide) rfl rfl
theorem gi84 {i : Int32} {K : Int32 → Prop} : gi L xs (mk I J R Z) 0 84 i K = (ip_in i 8 = true ∧ K (I 84 i.toNatClampNeg)) := giM (by decide) rfl (Or.inl rfl)
theorem si84 {i x : Int32} {K : Hp → Prop} : si (mk I J R Z) 0 84 i x K = (ip_in i 8 = true ∧ K (mk (st I 84 (upd (I 84) i.toNatClampNeg (x))) J R Z)) := siM (by decide) rfl (Or.inl rfl)
theorem gi85 {i : Int32} {K : Int32 → Prop} : gi L xs (mk I J R Z) 0 85 i K = (ip_in i 8 = true ∧ K (I 85 i.toNatClampNeg)) := giM (by decide) rfl (Or.inl rfl)
theorem si85 {i x : Int32} {K : Hp → Prop} : si (mk I J R Z) 0 85 i x K = (ip_in i 8 = true ∧ K (mk (st I 85 (upd (I 85) i.toNatClampNeg (x))) J R Z)) := siM (by decide) rfl (Or.inl rfl)
theorem gi86 {i : Int32} {K : Int32 → Prop} : gi L xs (mk I J R Z) 0 86 i K = (ip_in i 8 = true ∧ K (I 86 i.toNatClampNeg)) := giM (by decide) rfl (Or.inl rfl)
theorem si86 {i x : Int32} {K : Hp → Prop} : si (mk I J R Z) 0 86 i x K = (ip_in i 8 = true ∧ K (mk (st I 86 (upd (I 86) i.toNatClampNeg (x))) J R Z)) := siM (by decide) rfl (Or.inl rfl)
theorem gi87 {i : Int32} {K : Int32 → Prop} : gi L xs (mk I J R Z) 0 87 i K = (ip_in i 8 = true ∧ K (I 87 i.toNatClampNeg)) := giM (by decide) rfl (Or.inl rfl)
theorem si87 {i x : Int32} {K : Hp → Prop} : si (mk I J R Z) 0 87 i x K = (ip_in i 8 = true ∧ K (mk (st I 87 (upd (I 87) i.toNatClampNeg (x))) J R Z)) := siM (by decide) rfl (Or.inl rfl)
theorem gi88 {i : Int32} {K : Int32 → Prop} : gi L xs (mk I J R Z) 0 88 i K = (ip_in i 8 = true ∧ K (I 88 i.toNatClampNeg)) := giM (by decide) rfl (Or.inl rfl)
theorem si88 {i x : Int32} {K : Hp → Prop} : si (mk I J R Z) 0 88 i x K = (ip_in i 8 = true ∧ K (mk (st I 88 (upd (I 88) i.toNatClampNeg (x))) J R Z)) := siM (by decide) rfl (Or.inl rfl)
theorem gl89 {i : Int32} {K : Int64 → Prop} : gl (mk I J R Z) 89 i K = (ip_in i 8 = true ∧ K (J 89 i.toNatClampNeg)) := glM (by decide) rfl
theorem sl89 {i : Int32} {x : Int64} {K : Hp → Prop} : sl (mk I J R Z) 89 i x K = (ip_in i 8 = true ∧ K (mk I (st J 89 (vp_updL (J 89) i.toNatClampNeg x)) R Z)) := slM (by decide) rfl
theorem rc90 {l : List Value} : ip_rc (mk I J R Z) 9 (.ref 90 :: l) = true := rcM (by decide) rfl
theorem g90_0 {K : Value → Prop} : gf (ip_obj (mk I J R Z) 90) 9 0 K = K (.int (I 90 0)) := gf_mk (f := 0) (by decide) rfl rfl
theorem p90_0 {k : Nat} {x : Int32} {K : Hp → Prop} : sf (mk I J R Z) 90 9 0 k (.int x) K = (ip_fit k (.int x) = true ∧ K (mk (st I 90 (upd (I 90) 0 x)) J R Z)) := sfI (by decide) rfl rfl
theorem g90_1 {K : Value → Prop} : gf (ip_obj (mk I J R Z) 90) 9 1 K = K (.ref 91) := gf_mk (f := 91) (by decide) rfl rfl
theorem g90_2 {K : Value → Prop} : gf (ip_obj (mk I J R Z) 90) 9 2 K = K (.ref 92) := gf_mk (f := 92) (by decide) rfl rfl
theorem g90_3 {K : Value → Prop} : gf (ip_obj (mk I J R Z) 90) 9 3 K = K (.ref 93) := gf_mk (f := 93) (by decide) rfl rfl
theorem gi91 {i : Int32} {K : Int32 → Prop} : gi L xs (mk I J R Z) 0 91 i K = (ip_in i 40 = true ∧ K (I 91 i.toNatClampNeg)) := giM (by decide) rfl (Or.inl rfl)
theorem si91 {i x : Int32} {K : Hp → Prop} : si (mk I J R Z) 0 91 i x K = (ip_in i 40 = true ∧ K (mk (st I 91 (upd (I 91) i.toNatClampNeg (x))) J R Z)) := siM (by decide) rfl (Or.inl rfl)
theorem gi92 {i : Int32} {K : Int32 → Prop} : gi L xs (mk I J R Z) 0 92 i K = (ip_in i 40 = true ∧ K (I 92 i.toNatClampNeg)) := giM (by decide) rfl (Or.inl rfl)
theorem si92 {i x : Int32} {K : Hp → Prop} : si (mk I J R Z) 0 92 i x K = (ip_in i 40 = true ∧ K (mk (st I 92 (upd (I 92) i.toNatClampNeg (x))) J R Z)) := siM (by decide) rfl (Or.inl rfl)
theorem gi93 {i : Int32} {K : Int32 → Prop} : gi L xs (mk I J R Z) 0 93 i K = (ip_in i 40 = true ∧ K (I 93 i.toNatClampNeg)) := giM (by decide) rfl (Or.inl rfl)
theorem si93 {i x : Int32} {K : Hp → Prop} : si (mk I J R Z) 0 93 i x K = (ip_in i 40 = true ∧ K (mk (st I 93 (upd (I 93) i.toNatClampNeg (x))) J R Z)) := siM (by decide) rfl (Or.inl rfl)
theorem rc94 {l : List Value} : ip_rc (mk I J R Z) 9 (.ref 94 :: l) = true := rcM (by decide) rfl
theorem g94_0 {K : Value → Prop} : gf (ip_obj (mk I J R Z) 94) 9 0 K = K (.int (I 94 0)) := gf_mk (f := 0) (by decide) rfl rfl
theorem p94_0 {k : Nat} {x : Int32} {K : Hp → Prop} : sf (mk I J R Z) 94 9 0 k (.int x) K = (ip_fit k (.int x) = true ∧ K (mk (st I 94 (upd (I 94) 0 x)) J R Z)) := sfI (by decide) rfl rfl
theorem g94_1 {K : Value → Prop} : gf (ip_obj (mk I J R Z) 94) 9 1 K = K (.ref 95) := gf_mk (f := 95) (by decide) rfl rfl
theorem g94_2 {K : Value → Prop} : gf (ip_obj (mk I J R Z) 94) 9 2 K = K (.ref 96) := gf_mk (f := 96) (by decide) rfl rfl
theorem g94_3 {K : Value → Prop} : gf (ip_obj (mk I J R Z) 94) 9 3 K = K (.ref 97) := gf_mk (f := 97) (by decide) rfl rfl
theorem gi95 {i : Int32} {K : Int32 → Prop} : gi L xs (mk I J R Z) 0 95 i K = (ip_in i 40 = true ∧ K (I 95 i.toNatClampNeg)) := giM (by decide) rfl (Or.inl rfl)
theorem si95 {i x : Int32} {K : Hp → Prop} : si (mk I J R Z) 0 95 i x K = (ip_in i 40 = true ∧ K (mk (st I 95 (upd (I 95) i.toNatClampNeg (x))) J R Z)) := siM (by decide) rfl (Or.inl rfl)
theorem gi96 {i : Int32} {K : Int32 → Prop} : gi L xs (mk I J R Z) 0 96 i K = (ip_in i 40 = true ∧ K (I 96 i.toNatClampNeg)) := giM (by decide) rfl (Or.inl rfl)
theorem si96 {i x : Int32} {K : Hp → Prop} : si (mk I J R Z) 0 96 i x K = (ip_in i 40 = true ∧ K (mk (st I 96 (upd (I 96) i.toNatClampNeg (x))) J R Z)) := siM (by decide) rfl (Or.inl rfl)
theorem gi97 {i : Int32} {K : Int32 → Prop} : gi L xs (mk I J R Z) 0 97 i K = (ip_in i 40 = true ∧ K (I 97 i.toNatClampNeg)) := giM (by decide) rfl (Or.inl rfl)
theorem si97 {i x : Int32} {K : Hp → Prop} : si (mk I J R Z) 0 97 i x K = (ip_in i 40 = true ∧ K (mk (st I 97 (upd (I 97) i.toNatClampNeg (x))) J R Z)) := siM (by decide) rfl (Or.inl rfl)
theorem rc98 {l : List Value} : ip_rc (mk I J R Z) 9 (.ref 98 :: l) = true := rcM (by decide) rfl
theorem g98_0 {K : Value → Prop} : gf (ip_obj (mk I J R Z) 98) 9 0 K = K (.int (I 98 0)) := gf_mk (f := 0) (by decide) rfl rfl
theorem p98_0 {k : Nat} {x : Int32} {K : Hp → Prop} : sf (mk I J R Z) 98 9 0 k (.int x) K = (ip_fit k (.int x) = true ∧ K (mk (st I 98 (upd (I 98) 0 x)) J R Z)) := sfI (by decide) rfl rfl
theorem g98_1 {K : Value → Prop} : gf (ip_obj (mk I J R Z) 98) 9 1 K = K (.ref 99) := gf_mk (f := 99) (by decide) rfl rfl
theorem g98_2 {K : Value → Prop} : gf (ip_obj (mk I J R Z) 98) 9 2 K = K (.ref 100) := gf_mk (f := 100) (by decide) rfl rfl
theorem g98_3 {K : Value → Prop} : gf (ip_obj (mk I J R Z) 98) 9 3 K = K (.ref 101) := gf_mk (f := 101) (by decide) rfl rfl
theorem gi99 {i : Int32} {K : Int32 → Prop} : gi L xs (mk I J R Z) 0 99 i K = (ip_in i 8 = true ∧ K (I 99 i.toNatClampNeg)) := giM (by decide) rfl (Or.inl rfl)
theorem si99 {i x : Int32} {K : Hp → Prop} : si (mk I J R Z) 0 99 i x K = (ip_in i 8 = true ∧ K (mk (st I 99 (upd (I 99) i.toNatClampNeg (x))) J R Z)) := siM (by decide) rfl (Or.inl rfl)
theorem gi100 {i : Int32} {K : Int32 → Prop} : gi L xs (mk I J R Z) 0 100 i K = (ip_in i 8 = true ∧ K (I 100 i.toNatClampNeg)) := giM (by decide) rfl (Or.inl rfl)
theorem si100 {i x : Int32} {K : Hp → Prop} : si (mk I J R Z) 0 100 i x K = (ip_in i 8 = true ∧ K (mk (st I 100 (upd (I 100) i.toNatClampNeg (x))) J R Z)) := siM (by decide) rfl (Or.inl rfl)
theorem gi101 {i : Int32} {K : Int32 → Prop} : gi L xs (mk I J R Z) 0 101 i K = (ip_in i 8 = true ∧ K (I 101 i.toNatClampNeg)) := giM (by decide) rfl (Or.inl rfl)
theorem si101 {i x : Int32} {K : Hp → Prop} : si (mk I J R Z) 0 101 i x K = (ip_in i 8 = true ∧ K (mk (st I 101 (upd (I 101) i.toNatClampNeg (x))) J R Z)) := siM (by decide) rfl (Or.inl rfl)
theorem rc102 {l : List Value} : ip_rc (mk I J R Z) 7 (.ref 102 :: l) = true := rcM (by decide) rfl
theorem g102_0 {K : Value → Prop} : gf (ip_obj (mk I J R Z) 102) 7 0 K = K (.int (I 102 0)) := gf_mk (f := 0) (by decide) rfl rfl
theorem p102_0 {k : Nat} {x : Int32} {K : Hp → Prop} : sf (mk I J R Z) 102 7 0 k (.int x) K = (ip_fit k (.int x) = true ∧ K (mk (st I 102 (upd (I 102) 0 x)) J R Z)) := sfI (by decide) rfl rfl
theorem g102_1 {K : Value → Prop} : gf (ip_obj (mk I J R Z) 102) 7 1 K = K (.int (I 102 1)) := gf_mk (f := 0) (by decide) rfl rfl
theorem p102_1 {k : Nat} {x : Int32} {K : Hp → Prop} : sf (mk I J R Z) 102 7 1 k (.int x) K = (ip_fit k (.int x) = true ∧ K (mk (st I 102 (upd (I 102) 1 x)) J R Z)) := sfI (by decide) rfl rfl
theorem g102_2 {K : Value → Prop} : gf (ip_obj (mk I J R Z) 102) 7 2 K = K (.ref 103) := gf_mk (f := 103) (by decide) rfl rfl
theorem g102_3 {K : Value → Prop} : gf (ip_obj (mk I J R Z) 102) 7 3 K = K (.ref 104) := gf_mk (f := 104) (by decide) rfl rfl
theorem g102_4 {K : Value → Prop} : gf (ip_obj (mk I J R Z) 102) 7 4 K = K (.ref 105) := gf_mk (f := 105) (by decide) rfl rfl
theorem g102_5 {K : Value → Prop} : gf (ip_obj (mk I J R Z) 102) 7 5 K = K (.ref 106) := gf_mk (f := 106) (by decide) rfl rfl
theorem g102_6 {K : Value → Prop} : gf (ip_obj (mk I J R Z) 102) 7 6 K = K (.ref 107) := gf_mk (f := 107) (by decide) rfl rfl
theorem g102_7 {K : Value → Prop} : gf (ip_obj (mk I J R Z) 102) 7 7 K = K (.ref 108) := gf_mk (f := 108) (by decide) rfl rfl
theorem g102_8 {K : Value → Prop} : gf (ip_obj (mk I J R Z) 102) 7 8 K = K (.ref 109) := gf_mk (f := 109) (by decide) rfl rfl
theorem g102_9 {K : Value → Prop} : gf (ip_obj (mk I J R Z) 102) 7 9 K = K (.ref 110) := gf_mk (f := 110) (by decide) rfl rfl
theorem g102_10 {K : Value → Prop} : gf (ip_obj (mk I J R Z) 102) 7 10 K = K (.ref 111) := gf_mk (f := 111) (by decide) rfl rfl
theorem g102_11 {K : Value → Prop} : gf (ip_obj (mk I J R Z) 102) 7 11 K = K (.ref 112) := gf_mk (f := 112) (by decide) rfl rfl
theorem g102_12 {K : Value → Prop} : gf (ip_obj (mk I J R Z) 102) 7 12 K = K (.ref 113) := gf_mk (f := 113) (by decide) rfl rfl
theorem gi103 {i : Int32} {K : Int32 → Prop} : gi L xs (mk I J R Z) 0 103 i K = (ip_in i 40 = true ∧ K (I 103 i.toNatClampNeg)) := giM (by decide) rfl (Or.inl rfl)
theorem si103 {i x : Int32} {K : Hp → Prop} : si (mk I J R Z) 0 103 i x K = (ip_in i 40 = true ∧ K (mk (st I 103 (upd (I 103) i.toNatClampNeg (x))) J R Z)) := siM (by decide) rfl (Or.inl rfl)
theorem gi104 {i : Int32} {K : Int32 → Prop} : gi L xs (mk I J R Z) 0 104 i K = (ip_in i 40 = true ∧ K (I 104 i.toNatClampNeg)) := giM (by decide) rfl (Or.inl rfl)
theorem si104 {i x : Int32} {K : Hp → Prop} : si (mk I J R Z) 0 104 i x K = (ip_in i 40 = true ∧ K (mk (st I 104 (upd (I 104) i.toNatClampNeg (x))) J R Z)) := siM (by decide) rfl (Or.inl rfl)
theorem gi105 {i : Int32} {K : Int32 → Prop} : gi L xs (mk I J R Z) 0 105 i K = (ip_in i 40 = true ∧ K (I 105 i.toNatClampNeg)) := giM (by decide) rfl (Or.inl rfl)
theorem si105 {i x : Int32} {K : Hp → Prop} : si (mk I J R Z) 0 105 i x K = (ip_in i 40 = true ∧ K (mk (st I 105 (upd (I 105) i.toNatClampNeg (x))) J R Z)) := siM (by decide) rfl (Or.inl rfl)
theorem gi106 {i : Int32} {K : Int32 → Prop} : gi L xs (mk I J R Z) 0 106 i K = (ip_in i 40 = true ∧ K (I 106 i.toNatClampNeg)) := giM (by decide) rfl (Or.inl rfl)
theorem si106 {i x : Int32} {K : Hp → Prop} : si (mk I J R Z) 0 106 i x K = (ip_in i 40 = true ∧ K (mk (st I 106 (upd (I 106) i.toNatClampNeg (x))) J R Z)) := siM (by decide) rfl (Or.inl rfl)
theorem gi107 {i : Int32} {K : Int32 → Prop} : gi L xs (mk I J R Z) 0 107 i K = (ip_in i 40 = true ∧ K (I 107 i.toNatClampNeg)) := giM (by decide) rfl (Or.inl rfl)
theorem si107 {i x : Int32} {K : Hp → Prop} : si (mk I J R Z) 0 107 i x K = (ip_in i 40 = true ∧ K (mk (st I 107 (upd (I 107) i.toNatClampNeg (x))) J R Z)) := siM (by decide) rfl (Or.inl rfl)
theorem gi108 {i : Int32} {K : Int32 → Prop} : gi L xs (mk I J R Z) 0 108 i K = (ip_in i 40 = true ∧ K (I 108 i.toNatClampNeg)) := giM (by decide) rfl (Or.inl rfl)
theorem si108 {i x : Int32} {K : Hp → Prop} : si (mk I J R Z) 0 108 i x K = (ip_in i 40 = true ∧ K (mk (st I 108 (upd (I 108) i.toNatClampNeg (x))) J R Z)) := siM (by decide) rfl (Or.inl rfl)
theorem gi109 {i : Int32} {K : Int32 → Prop} : gi L xs (mk I J R Z) 0 109 i K = (ip_in i 5 = true ∧ K (I 109 i.toNatClampNeg)) := giM (by decide) rfl (Or.inl rfl)
theorem si109 {i x : Int32} {K : Hp → Prop} : si (mk I J R Z) 0 109 i x K = (ip_in i 5 = true ∧ K (mk (st I 109 (upd (I 109) i.toNatClampNeg (x))) J R Z)) := siM (by decide) rfl (Or.inl rfl)
theorem gi110 {i : Int32} {K : Int32 → Prop} : gi L xs (mk I J R Z) 0 110 i K = (ip_in i 20 = true ∧ K (I 110 i.toNatClampNeg)) := giM (by decide) rfl (Or.inl rfl)
theorem si110 {i x : Int32} {K : Hp → Prop} : si (mk I J R Z) 0 110 i x K = (ip_in i 20 = true ∧ K (mk (st I 110 (upd (I 110) i.toNatClampNeg (x))) J R Z)) := siM (by decide) rfl (Or.inl rfl)
theorem gi111 {i : Int32} {K : Int32 → Prop} : gi L xs (mk I J R Z) 0 111 i K = (ip_in i 8 = true ∧ K (I 111 i.toNatClampNeg)) := giM (by decide) rfl (Or.inl rfl)
theorem si111 {i x : Int32} {K : Hp → Prop} : si (mk I J R Z) 0 111 i x K = (ip_in i 8 = true ∧ K (mk (st I 111 (upd (I 111) i.toNatClampNeg (x))) J R Z)) := siM (by decide) rfl (Or.inl rfl)
theorem gi112 {i : Int32} {K : Int32 → Prop} : gi L xs (mk I J R Z) 0 112 i K = (ip_in i 8 = true ∧ K (I 112 i.toNatClampNeg)) := giM (by decide) rfl (Or.inl rfl)
theorem si112 {i x : Int32} {K : Hp → Prop} : si (mk I J R Z) 0 112 i x K = (ip_in i 8 = true ∧ K (mk (st I 112 (upd (I 112) i.toNatClampNeg (x))) J R Z)) := siM (by decide) rfl (Or.inl rfl)
theorem gi113 {i : Int32} {K : Int32 → Prop} : gi L xs (mk I J R Z) 0 113 i K = (ip_in i 8 = true ∧ K (I 113 i.toNatClampNeg)) := giM (by decide) rfl (Or.inl rfl)
theorem si113 {i x : Int32} {K : Hp → Prop} : si (mk I J R Z) 0 113 i x K = (ip_in i 8 = true ∧ K (mk (st I 113 (upd (I 113) i.toNatClampNeg (x))) J R Z)) := siM (by decide) rfl (Or.inl rfl)
theorem rc114 {l : List Value} : ip_rc (mk I J R Z) 7 (.ref 114 :: l) = true := rcM (by decide) rfl
theorem g114_0 {K : Value → Prop} : gf (ip_obj (mk I J R Z) 114) 7 0 K = K (.int (I 114 0)) := gf_mk (f := 0) (by decide) rfl rfl
theorem p114_0 {k : Nat} {x : Int32} {K : Hp → Prop} : sf (mk I J R Z) 114 7 0 k (.int x) K = (ip_fit k (.int x) = true ∧ K (mk (st I 114 (upd (I 114) 0 x)) J R Z)) := sfI (by decide) rfl rfl
theorem g114_1 {K : Value → Prop} : gf (ip_obj (mk I J R Z) 114) 7 1 K = K (.int (I 114 1)) := gf_mk (f := 0) (by decide) rfl rfl
theorem p114_1 {k : Nat} {x : Int32} {K : Hp → Prop} : sf (mk I J R Z) 114 7 1 k (.int x) K = (ip_fit k (.int x) = true ∧ K (mk (st I 114 (upd (I 114) 1 x)) J R Z)) := sfI (by decide) rfl rfl
theorem g114_2 {K : Value → Prop} : gf (ip_obj (mk I J R Z) 114) 7 2 K = K (.ref 115) := gf_mk (f := 115) (by decide) rfl rfl
theorem g114_3 {K : Value → Prop} : gf (ip_obj (mk I J R Z) 114) 7 3 K = K (.ref 116) := gf_mk (f := 116) (by decide) rfl rfl
theorem g114_4 {K : Value → Prop} : gf (ip_obj (mk I J R Z) 114) 7 4 K = K (.ref 117) := gf_mk (f := 117) (by decide) rfl rfl
theorem g114_5 {K : Value → Prop} : gf (ip_obj (mk I J R Z) 114) 7 5 K = K (.ref 118) := gf_mk (f := 118) (by decide) rfl rfl
theorem g114_6 {K : Value → Prop} : gf (ip_obj (mk I J R Z) 114) 7 6 K = K (.ref 119) := gf_mk (f := 119) (by decide) rfl rfl
theorem g114_7 {K : Value → Prop} : gf (ip_obj (mk I J R Z) 114) 7 7 K = K (.ref 120) := gf_mk (f := 120) (by decide) rfl rfl
theorem g114_8 {K : Value → Prop} : gf (ip_obj (mk I J R Z) 114) 7 8 K = K (.ref 121) := gf_mk (f := 121) (by decide) rfl rfl
theorem g114_9 {K : Value → Prop} : gf (ip_obj (mk I J R Z) 114) 7 9 K = K (.ref 122) := gf_mk (f := 122) (by decide) rfl rfl
theorem g114_10 {K : Value → Prop} : gf (ip_obj (mk I J R Z) 114) 7 10 K = K (.ref 123) := gf_mk (f := 123) (by decide) rfl rfl
theorem g114_11 {K : Value → Prop} : gf (ip_obj (mk I J R Z) 114) 7 11 K = K (.ref 124) := gf_mk (f := 124) (by decide) rfl rfl
theorem g114_12 {K : Value → Prop} : gf (ip_obj (mk I J R Z) 114) 7 12 K = K (.ref 125) := gf_mk (f := 125) (by decide) rfl rfl
theorem gi115 {i : Int32} {K : Int32 → Prop} : gi L xs (mk I J R Z) 0 115 i K = (ip_in i 40 = true ∧ K (I 115 i.toNatClampNeg)) := giM (by decide) rfl (Or.inl rfl)
theorem si115 {i x : Int32} {K : Hp → Prop} : si (mk I J R Z) 0 115 i x K = (ip_in i 40 = true ∧ K (mk (st I 115 (upd (I 115) i.toNatClampNeg (x))) J R Z)) := siM (by decide) rfl (Or.inl rfl)
theorem gi116 {i : Int32} {K : Int32 → Prop} : gi L xs (mk I J R Z) 0 116 i K = (ip_in i 40 = true ∧ K (I 116 i.toNatClampNeg)) := giM (by decide) rfl (Or.inl rfl)
theorem si116 {i x : Int32} {K : Hp → Prop} : si (mk I J R Z) 0 116 i x K = (ip_in i 40 = true ∧ K (mk (st I 116 (upd (I 116) i.toNatClampNeg (x))) J R Z)) := siM (by decide) rfl (Or.inl rfl)
theorem gi117 {i : Int32} {K : Int32 → Prop} : gi L xs (mk I J R Z) 0 117 i K = (ip_in i 40 = true ∧ K (I 117 i.toNatClampNeg)) := giM (by decide) rfl (Or.inl rfl)
theorem si117 {i x : Int32} {K : Hp → Prop} : si (mk I J R Z) 0 117 i x K = (ip_in i 40 = true ∧ K (mk (st I 117 (upd (I 117) i.toNatClampNeg (x))) J R Z)) := siM (by decide) rfl (Or.inl rfl)
theorem gi118 {i : Int32} {K : Int32 → Prop} : gi L xs (mk I J R Z) 0 118 i K = (ip_in i 40 = true ∧ K (I 118 i.toNatClampNeg)) := giM (by decide) rfl (Or.inl rfl)
theorem si118 {i x : Int32} {K : Hp → Prop} : si (mk I J R Z) 0 118 i x K = (ip_in i 40 = true ∧ K (mk (st I 118 (upd (I 118) i.toNatClampNeg (x))) J R Z)) := siM (by decide) rfl (Or.inl rfl)
theorem gi119 {i : Int32} {K : Int32 → Prop} : gi L xs (mk I J R Z) 0 119 i K = (ip_in i 40 = true ∧ K (I 119 i.toNatClampNeg)) := giM (by decide) rfl (Or.inl rfl)
theorem si119 {i x : Int32} {K : Hp → Prop} : si (mk I J R Z) 0 119 i x K = (ip_in i 40 = true ∧ K (mk (st I 119 (upd (I 119) i.toNatClampNeg (x))) J R Z)) := siM (by decide) rfl (Or.inl rfl)
theorem gi120 {i : Int32} {K : Int32 → Prop} : gi L xs (mk I J R Z) 0 120 i K = (ip_in i 40 = true ∧ K (I 120 i.toNatClampNeg)) := giM (by decide) rfl (Or.inl rfl)
theorem si120 {i x : Int32} {K : Hp → Prop} : si (mk I J R Z) 0 120 i x K = (ip_in i 40 = true ∧ K (mk (st I 120 (upd (I 120) i.toNatClampNeg (x))) J R Z)) := siM (by decide) rfl (Or.inl rfl)
theorem gi121 {i : Int32} {K : Int32 → Prop} : gi L xs (mk I J R Z) 0 121 i K = (ip_in i 5 = true ∧ K (I 121 i.toNatClampNeg)) := giM (by decide) rfl (Or.inl rfl)
theorem si121 {i x : Int32} {K : Hp → Prop} : si (mk I J R Z) 0 121 i x K = (ip_in i 5 = true ∧ K (mk (st I 121 (upd (I 121) i.toNatClampNeg (x))) J R Z)) := siM (by decide) rfl (Or.inl rfl)
theorem gi122 {i : Int32} {K : Int32 → Prop} : gi L xs (mk I J R Z) 0 122 i K = (ip_in i 20 = true ∧ K (I 122 i.toNatClampNeg)) := giM (by decide) rfl (Or.inl rfl)
theorem si122 {i x : Int32} {K : Hp → Prop} : si (mk I J R Z) 0 122 i x K = (ip_in i 20 = true ∧ K (mk (st I 122 (upd (I 122) i.toNatClampNeg (x))) J R Z)) := siM (by decide) rfl (Or.inl rfl)
theorem gi123 {i : Int32} {K : Int32 → Prop} : gi L xs (mk I J R Z) 0 123 i K = (ip_in i 8 = true ∧ K (I 123 i.toNatClampNeg)) := giM (by decide) rfl (Or.inl rfl)
theorem si123 {i x : Int32} {K : Hp → Prop} : si (mk I J R Z) 0 123 i x K = (ip_in i 8 = true ∧ K (mk (st I 123 (upd (I 123) i.toNatClampNeg (x))) J R Z)) := siM (by decide) rfl (Or.inl rfl)
theorem gi124 {i : Int32} {K : Int32 → Prop} : gi L xs (mk I J R Z) 0 124 i K = (ip_in i 8 = true ∧ K (I 124 i.toNatClampNeg)) := giM (by decide) rfl (Or.inl rfl)
theorem si124 {i x : Int32} {K : Hp → Prop} : si (mk I J R Z) 0 124 i x K = (ip_in i 8 = true ∧ K (mk (st I 124 (upd (I 124) i.toNatClampNeg (x))) J R Z)) := siM (by decide) rfl (Or.inl rfl)
theorem gi125 {i : Int32} {K : Int32 → Prop} : gi L xs (mk I J R Z) 0 125 i K = (ip_in i 8 = true ∧ K (I 125 i.toNatClampNeg)) := giM (by decide) rfl (Or.inl rfl)
theorem si125 {i x : Int32} {K : Hp → Prop} : si (mk I J R Z) 0 125 i x K = (ip_in i 8 = true ∧ K (mk (st I 125 (upd (I 125) i.toNatClampNeg (x))) J R Z)) := siM (by decide) rfl (Or.inl rfl)
theorem rc126 {l : List Value} : ip_rc (mk I J R Z) 6 (.ref 126 :: l) = true := rcM (by decide) rfl
theorem g126_0 {K : Value → Prop} : gf (ip_obj (mk I J R Z) 126) 6 0 K = K (.ref 76) := gf_mk (f := 76) (by decide) rfl rfl
theorem g126_1 {K : Value → Prop} : gf (ip_obj (mk I J R Z) 126) 6 1 K = K (.ref 127) := gf_mk (f := 127) (by decide) rfl rfl
theorem g126_2 {K : Value → Prop} : gf (ip_obj (mk I J R Z) 126) 6 2 K = K (.int (I 126 2)) := gf_mk (f := 0) (by decide) rfl rfl
theorem p126_2 {k : Nat} {x : Int32} {K : Hp → Prop} : sf (mk I J R Z) 126 6 2 k (.int x) K = (ip_fit k (.int x) = true ∧ K (mk (st I 126 (upd (I 126) 2 x)) J R Z)) := sfI (by decide) rfl rfl
theorem gi127 {i : Int32} {K : Int32 → Prop} : gi L xs (mk I J R Z) 0 127 i K = (ip_in i 8 = true ∧ K (I 127 i.toNatClampNeg)) := giM (by decide) rfl (Or.inl rfl)
theorem si127 {i x : Int32} {K : Hp → Prop} : si (mk I J R Z) 0 127 i x K = (ip_in i 8 = true ∧ K (mk (st I 127 (upd (I 127) i.toNatClampNeg (x))) J R Z)) := siM (by decide) rfl (Or.inl rfl)
theorem rc128 {l : List Value} : ip_rc (mk I J R Z) 5 (.ref 128 :: l) = true := rcM (by decide) rfl
theorem g128_0 {K : Value → Prop} : gf (ip_obj (mk I J R Z) 128) 5 0 K = K (.ref 76) := gf_mk (f := 76) (by decide) rfl rfl
theorem g128_1 {K : Value → Prop} : gf (ip_obj (mk I J R Z) 128) 5 1 K = K (.ref 126) := gf_mk (f := 126) (by decide) rfl rfl
theorem g128_2 {K : Value → Prop} : gf (ip_obj (mk I J R Z) 128) 5 2 K = K (.int (I 128 2)) := gf_mk (f := 0) (by decide) rfl rfl
theorem p128_2 {k : Nat} {x : Int32} {K : Hp → Prop} : sf (mk I J R Z) 128 5 2 k (.int x) K = (ip_fit k (.int x) = true ∧ K (mk (st I 128 (upd (I 128) 2 x)) J R Z)) := sfI (by decide) rfl rfl
theorem g128_3 {K : Value → Prop} : gf (ip_obj (mk I J R Z) 128) 5 3 K = K (.int (I 128 3)) := gf_mk (f := 0) (by decide) rfl rfl
theorem p128_3 {k : Nat} {x : Int32} {K : Hp → Prop} : sf (mk I J R Z) 128 5 3 k (.int x) K = (ip_fit k (.int x) = true ∧ K (mk (st I 128 (upd (I 128) 3 x)) J R Z)) := sfI (by decide) rfl rfl
theorem rc129 {l : List Value} : ip_rc (mk I J R Z) 1 (.ref 129 :: l) = true := rcM (by decide) rfl
theorem g129_0 {K : Value → Prop} : gf (ip_obj (mk I J R Z) 129) 1 0 K = K (.ref 130) := gf_mk (f := 130) (by decide) rfl rfl
theorem g129_1 {K : Value → Prop} : gf (ip_obj (mk I J R Z) 129) 1 1 K = K (.int (I 129 1)) := gf_mk (f := 0) (by decide) rfl rfl
theorem p129_1 {k : Nat} {x : Int32} {K : Hp → Prop} : sf (mk I J R Z) 129 1 1 k (.int x) K = (ip_fit k (.int x) = true ∧ K (mk (st I 129 (upd (I 129) 1 x)) J R Z)) := sfI (by decide) rfl rfl
theorem g129_2 {K : Value → Prop} : gf (ip_obj (mk I J R Z) 129) 1 2 K = K (.int (I 129 2)) := gf_mk (f := 0) (by decide) rfl rfl
theorem p129_2 {k : Nat} {x : Int32} {K : Hp → Prop} : sf (mk I J R Z) 129 1 2 k (.int x) K = (ip_fit k (.int x) = true ∧ K (mk (st I 129 (upd (I 129) 2 x)) J R Z)) := sfI (by decide) rfl rfl
theorem rc336 {l : List Value} : ip_rc (mk I J R Z) 3 (.ref 336 :: l) = true := rcM (by decide) rfl
theorem g336_0 {K : Value → Prop} : gf (ip_obj (mk I J R Z) 336) 3 0 K = K (.int (I 336 0)) := gf_mk (f := 0) (by decide) rfl rfl
theorem p336_0 {k : Nat} {x : Int32} {K : Hp → Prop} : sf (mk I J R Z) 336 3 0 k (.int x) K = (ip_fit k (.int x) = true ∧ K (mk (st I 336 (upd (I 336) 0 x)) J R Z)) := sfI (by decide) rfl rfl
theorem g336_1 {K : Value → Prop} : gf (ip_obj (mk I J R Z) 336) 3 1 K = K (.ref 337) := gf_mk (f := 337) (by decide) rfl rfl
theorem g336_2 {K : Value → Prop} : gf (ip_obj (mk I J R Z) 336) 3 2 K = K (.ref 349) := gf_mk (f := 349) (by decide) rfl rfl
theorem g336_3 {K : Value → Prop} : gf (ip_obj (mk I J R Z) 336) 3 3 K = K (.ref 353) := gf_mk (f := 353) (by decide) rfl rfl
theorem rc357 {l : List Value} : ip_rc (mk I J R Z) 3 (.ref 357 :: l) = true := rcM (by decide) rfl
theorem g357_0 {K : Value → Prop} : gf (ip_obj (mk I J R Z) 357) 3 0 K = K (.int (I 357 0)) := gf_mk (f := 0) (by decide) rfl rfl
theorem p357_0 {k : Nat} {x : Int32} {K : Hp → Prop} : sf (mk I J R Z) 357 3 0 k (.int x) K = (ip_fit k (.int x) = true ∧ K (mk (st I 357 (upd (I 357) 0 x)) J R Z)) := sfI (by decide) rfl rfl
theorem g357_1 {K : Value → Prop} : gf (ip_obj (mk I J R Z) 357) 3 1 K = K (.ref 358) := gf_mk (f := 358) (by decide) rfl rfl
theorem g357_2 {K : Value → Prop} : gf (ip_obj (mk I J R Z) 357) 3 2 K = K (.ref 370) := gf_mk (f := 370) (by decide) rfl rfl
theorem g357_3 {K : Value → Prop} : gf (ip_obj (mk I J R Z) 357) 3 3 K = K (.ref 374) := gf_mk (f := 374) (by decide) rfl rfl
theorem rc378 {l : List Value} : ip_rc (mk I J R Z) 3 (.ref 378 :: l) = true := rcM (by decide) rfl
theorem g378_0 {K : Value → Prop} : gf (ip_obj (mk I J R Z) 378) 3 0 K = K (.int (I 378 0)) := gf_mk (f := 0) (by decide) rfl rfl
theorem p378_0 {k : Nat} {x : Int32} {K : Hp → Prop} : sf (mk I J R Z) 378 3 0 k (.int x) K = (ip_fit k (.int x) = true ∧ K (mk (st I 378 (upd (I 378) 0 x)) J R Z)) := sfI (by decide) rfl rfl
theorem g378_1 {K : Value → Prop} : gf (ip_obj (mk I J R Z) 378) 3 1 K = K (.ref 379) := gf_mk (f := 379) (by decide) rfl rfl
theorem g378_2 {K : Value → Prop} : gf (ip_obj (mk I J R Z) 378) 3 2 K = K (.ref 391) := gf_mk (f := 391) (by decide) rfl rfl
theorem g378_3 {K : Value → Prop} : gf (ip_obj (mk I J R Z) 378) 3 3 K = K (.ref 395) := gf_mk (f := 395) (by decide) rfl rfl
theorem rc399 {l : List Value} : ip_rc (mk I J R Z) 3 (.ref 399 :: l) = true := rcM (by decide) rfl
theorem g399_0 {K : Value → Prop} : gf (ip_obj (mk I J R Z) 399) 3 0 K = K (.int (I 399 0)) := gf_mk (f := 0) (by decide) rfl rfl
theorem p399_0 {k : Nat} {x : Int32} {K : Hp → Prop} : sf (mk I J R Z) 399 3 0 k (.int x) K = (ip_fit k (.int x) = true ∧ K (mk (st I 399 (upd (I 399) 0 x)) J R Z)) := sfI (by decide) rfl rfl
theorem g399_1 {K : Value → Prop} : gf (ip_obj (mk I J R Z) 399) 3 1 K = K (.ref 400) := gf_mk (f := 400) (by decide) rfl rfl
theorem g399_2 {K : Value → Prop} : gf (ip_obj (mk I J R Z) 399) 3 2 K = K (.ref 412) := gf_mk (f := 412) (by decide) rfl rfl
theorem g399_3 {K : Value → Prop} : gf (ip_obj (mk I J R Z) 399) 3 3 K = K (.ref 416) := gf_mk (f := 416) (by decide) rfl rfl
theorem rc420 {l : List Value} : ip_rc (mk I J R Z) 11 (.ref 420 :: l) = true := rcM (by decide) rfl
theorem g420_0 {K : Value → Prop} : gf (ip_obj (mk I J R Z) 420) 11 0 K = K (.int (I 420 0)) := gf_mk (f := 0) (by decide) rfl rfl
theorem p420_0 {k : Nat} {x : Int32} {K : Hp → Prop} : sf (mk I J R Z) 420 11 0 k (.int x) K = (ip_fit k (.int x) = true ∧ K (mk (st I 420 (upd (I 420) 0 x)) J R Z)) := sfI (by decide) rfl rfl
theorem g420_1 {K : Value → Prop} : gf (ip_obj (mk I J R Z) 420) 11 1 K = K (.int (I 420 1)) := gf_mk (f := 0) (by decide) rfl rfl
theorem p420_1 {k : Nat} {x : Int32} {K : Hp → Prop} : sf (mk I J R Z) 420 11 1 k (.int x) K = (ip_fit k (.int x) = true ∧ K (mk (st I 420 (upd (I 420) 1 x)) J R Z)) := sfI (by decide) rfl rfl
theorem g420_2 {K : Value → Prop} : gf (ip_obj (mk I J R Z) 420) 11 2 K = K (.ref 421) := gf_mk (f := 421) (by decide) rfl rfl
theorem g420_3 {K : Value → Prop} : gf (ip_obj (mk I J R Z) 420) 11 3 K = K (.int (I 420 3)) := gf_mk (f := 0) (by decide) rfl rfl
theorem p420_3 {k : Nat} {x : Int32} {K : Hp → Prop} : sf (mk I J R Z) 420 11 3 k (.int x) K = (ip_fit k (.int x) = true ∧ K (mk (st I 420 (upd (I 420) 3 x)) J R Z)) := sfI (by decide) rfl rfl
theorem g420_4 {K : Value → Prop} : gf (ip_obj (mk I J R Z) 420) 11 4 K = K (.int (I 420 4)) := gf_mk (f := 0) (by decide) rfl rfl
theorem p420_4 {k : Nat} {x : Int32} {K : Hp → Prop} : sf (mk I J R Z) 420 11 4 k (.int x) K = (ip_fit k (.int x) = true ∧ K (mk (st I 420 (upd (I 420) 4 x)) J R Z)) := sfI (by decide) rfl rfl
theorem g420_5 {K : Value → Prop} : gf (ip_obj (mk I J R Z) 420) 11 5 K = K (.int (I 420 5)) := gf_mk (f := 0) (by decide) rfl rfl
theorem p420_5 {k : Nat} {x : Int32} {K : Hp → Prop} : sf (mk I J R Z) 420 11 5 k (.int x) K = (ip_fit k (.int x) = true ∧ K (mk (st I 420 (upd (I 420) 5 x)) J R Z)) := sfI (by decide) rfl rfl
theorem g420_6 {K : Value → Prop} : gf (ip_obj (mk I J R Z) 420) 11 6 K = K (.int (I 420 6)) := gf_mk (f := 0) (by decide) rfl rfl
theorem p420_6 {k : Nat} {x : Int32} {K : Hp → Prop} : sf (mk I J R Z) 420 11 6 k (.int x) K = (ip_fit k (.int x) = true ∧ K (mk (st I 420 (upd (I 420) 6 x)) J R Z)) := sfI (by decide) rfl rfl
theorem g420_7 {K : Value → Prop} : gf (ip_obj (mk I J R Z) 420) 11 7 K = K (.long (J 420 7)) := gf_mk (f := 1) (by decide) rfl rfl
theorem p420_7 {k : Nat} {x : Int64} {K : Hp → Prop} : sf (mk I J R Z) 420 11 7 k (.long x) K = (ip_fit k (.long x) = true ∧ K (mk I (st J 420 (vp_updL (J 420) 7 x)) R Z)) := sfJ (by decide) rfl rfl
theorem g420_8 {K : Value → Prop} : gf (ip_obj (mk I J R Z) 420) 11 8 K = K (.int (I 420 8)) := gf_mk (f := 0) (by decide) rfl rfl
theorem p420_8 {k : Nat} {x : Int32} {K : Hp → Prop} : sf (mk I J R Z) 420 11 8 k (.int x) K = (ip_fit k (.int x) = true ∧ K (mk (st I 420 (upd (I 420) 8 x)) J R Z)) := sfI (by decide) rfl rfl
theorem g420_9 {K : Value → Prop} : gf (ip_obj (mk I J R Z) 420) 11 9 K = K (.int (I 420 9)) := gf_mk (f := 0) (by decide) rfl rfl
theorem p420_9 {k : Nat} {x : Int32} {K : Hp → Prop} : sf (mk I J R Z) 420 11 9 k (.int x) K = (ip_fit k (.int x) = true ∧ K (mk (st I 420 (upd (I 420) 9 x)) J R Z)) := sfI (by decide) rfl rfl
theorem g420_10 {K : Value → Prop} : gf (ip_obj (mk I J R Z) 420) 11 10 K = K (.ref 422) := gf_mk (f := 422) (by decide) rfl rfl
theorem g420_11 {K : Value → Prop} : gf (ip_obj (mk I J R Z) 420) 11 11 K = K (.ref 423) := gf_mk (f := 423) (by decide) rfl rfl
theorem g420_12 {K : Value → Prop} : gf (ip_obj (mk I J R Z) 420) 11 12 K = K (.ref 424) := gf_mk (f := 424) (by decide) rfl rfl
theorem g420_13 {K : Value → Prop} : gf (ip_obj (mk I J R Z) 420) 11 13 K = K (.ref 425) := gf_mk (f := 425) (by decide) rfl rfl
theorem g420_14 {K : Value → Prop} : gf (ip_obj (mk I J R Z) 420) 11 14 K = K (.ref 426) := gf_mk (f := 426) (by decide) rfl rfl
theorem g420_15 {K : Value → Prop} : gf (ip_obj (mk I J R Z) 420) 11 15 K = K (.ref 427) := gf_mk (f := 427) (by decide) rfl rfl
theorem g420_16 {K : Value → Prop} : gf (ip_obj (mk I J R Z) 420) 11 16 K = K (.ref 428) := gf_mk (f := 428) (by decide) rfl rfl
theorem g420_17 {K : Value → Prop} : gf (ip_obj (mk I J R Z) 420) 11 17 K = K (.ref 429) := gf_mk (f := 429) (by decide) rfl rfl
theorem g420_18 {K : Value → Prop} : gf (ip_obj (mk I J R Z) 420) 11 18 K = K (.ref 430) := gf_mk (f := 430) (by decide) rfl rfl
theorem g420_19 {K : Value → Prop} : gf (ip_obj (mk I J R Z) 420) 11 19 K = K (.int (I 420 19)) := gf_mk (f := 0) (by decide) rfl rfl
theorem p420_19 {k : Nat} {x : Int32} {K : Hp → Prop} : sf (mk I J R Z) 420 11 19 k (.int x) K = (ip_fit k (.int x) = true ∧ K (mk (st I 420 (upd (I 420) 19 x)) J R Z)) := sfI (by decide) rfl rfl
theorem g420_20 {K : Value → Prop} : gf (ip_obj (mk I J R Z) 420) 11 20 K = K (.ref 431) := gf_mk (f := 431) (by decide) rfl rfl
theorem g420_21 {K : Value → Prop} : gf (ip_obj (mk I J R Z) 420) 11 21 K = K (.ref 432) := gf_mk (f := 432) (by decide) rfl rfl
theorem g420_22 {K : Value → Prop} : gf (ip_obj (mk I J R Z) 420) 11 22 K = K (.ref 433) := gf_mk (f := 433) (by decide) rfl rfl
theorem g420_23 {K : Value → Prop} : gf (ip_obj (mk I J R Z) 420) 11 23 K = K (.ref 434) := gf_mk (f := 434) (by decide) rfl rfl
theorem g420_24 {K : Value → Prop} : gf (ip_obj (mk I J R Z) 420) 11 24 K = K (.ref 435) := gf_mk (f := 435) (by decide) rfl rfl
theorem g420_25 {K : Value → Prop} : gf (ip_obj (mk I J R Z) 420) 11 25 K = K (.ref 436) := gf_mk (f := 436) (by decide) rfl rfl
theorem g420_26 {K : Value → Prop} : gf (ip_obj (mk I J R Z) 420) 11 26 K = K (.ref 437) := gf_mk (f := 437) (by decide) rfl rfl
theorem g420_27 {K : Value → Prop} : gf (ip_obj (mk I J R Z) 420) 11 27 K = K (.ref 438) := gf_mk (f := 438) (by decide) rfl rfl
theorem g420_28 {K : Value → Prop} : gf (ip_obj (mk I J R Z) 420) 11 28 K = K (.ref 439) := gf_mk (f := 439) (by decide) rfl rfl
theorem g420_29 {K : Value → Prop} : gf (ip_obj (mk I J R Z) 420) 11 29 K = K (.ref 440) := gf_mk (f := 440) (by decide) rfl rfl
theorem g420_30 {K : Value → Prop} : gf (ip_obj (mk I J R Z) 420) 11 30 K = K (.ref 441) := gf_mk (f := 441) (by decide) rfl rfl
theorem g420_31 {K : Value → Prop} : gf (ip_obj (mk I J R Z) 420) 11 31 K = K (.ref 442) := gf_mk (f := 442) (by decide) rfl rfl
theorem g420_32 {K : Value → Prop} : gf (ip_obj (mk I J R Z) 420) 11 32 K = K (.int (I 420 32)) := gf_mk (f := 0) (by decide) rfl rfl
theorem p420_32 {k : Nat} {x : Int32} {K : Hp → Prop} : sf (mk I J R Z) 420 11 32 k (.int x) K = (ip_fit k (.int x) = true ∧ K (mk (st I 420 (upd (I 420) 32 x)) J R Z)) := sfI (by decide) rfl rfl
theorem g420_33 {K : Value → Prop} : gf (ip_obj (mk I J R Z) 420) 11 33 K = K (.ref 443) := gf_mk (f := 443) (by decide) rfl rfl
theorem g420_34 {K : Value → Prop} : gf (ip_obj (mk I J R Z) 420) 11 34 K = K (.ref 444) := gf_mk (f := 444) (by decide) rfl rfl
theorem g420_35 {K : Value → Prop} : gf (ip_obj (mk I J R Z) 420) 11 35 K = K (.ref 445) := gf_mk (f := 445) (by decide) rfl rfl
theorem g420_36 {K : Value → Prop} : gf (ip_obj (mk I J R Z) 420) 11 36 K = K (.ref 446) := gf_mk (f := 446) (by decide) rfl rfl
theorem g420_37 {K : Value → Prop} : gf (ip_obj (mk I J R Z) 420) 11 37 K = K (.ref 447) := gf_mk (f := 447) (by decide) rfl rfl
theorem g420_38 {K : Value → Prop} : gf (ip_obj (mk I J R Z) 420) 11 38 K = K (.ref 448) := gf_mk (f := 448) (by decide) rfl rfl
theorem g420_39 {K : Value → Prop} : gf (ip_obj (mk I J R Z) 420) 11 39 K = K (.ref 449) := gf_mk (f := 449) (by decide) rfl rfl
theorem g420_40 {K : Value → Prop} : gf (ip_obj (mk I J R Z) 420) 11 40 K = K (.ref 450) := gf_mk (f := 450) (by decide) rfl rfl
theorem g420_41 {K : Value → Prop} : gf (ip_obj (mk I J R Z) 420) 11 41 K = K (.ref 451) := gf_mk (f := 451) (by decide) rfl rfl
theorem g420_42 {K : Value → Prop} : gf (ip_obj (mk I J R Z) 420) 11 42 K = K (.ref 452) := gf_mk (f := 452) (by decide) rfl rfl
theorem g420_43 {K : Value → Prop} : gf (ip_obj (mk I J R Z) 420) 11 43 K = K (.ref 453) := gf_mk (f := 453) (by decide) rfl rfl
theorem g420_44 {K : Value → Prop} : gf (ip_obj (mk I J R Z) 420) 11 44 K = K (.ref 454) := gf_mk (f := 454) (by decide) rfl rfl
theorem g420_45 {K : Value → Prop} : gf (ip_obj (mk I J R Z) 420) 11 45 K = K (.ref 455) := gf_mk (f := 455) (by decide) rfl rfl
theorem g420_46 {K : Value → Prop} : gf (ip_obj (mk I J R Z) 420) 11 46 K = K (.ref 456) := gf_mk (f := 456) (by decide) rfl rfl
theorem g420_47 {K : Value → Prop} : gf (ip_obj (mk I J R Z) 420) 11 47 K = K (.int (I 420 47)) := gf_mk (f := 0) (by decide) rfl rfl
theorem p420_47 {k : Nat} {x : Int32} {K : Hp → Prop} : sf (mk I J R Z) 420 11 47 k (.int x) K = (ip_fit k (.int x) = true ∧ K (mk (st I 420 (upd (I 420) 47 x)) J R Z)) := sfI (by decide) rfl rfl
theorem g420_48 {K : Value → Prop} : gf (ip_obj (mk I J R Z) 420) 11 48 K = K (.ref 457) := gf_mk (f := 457) (by decide) rfl rfl
theorem g420_49 {K : Value → Prop} : gf (ip_obj (mk I J R Z) 420) 11 49 K = K (.long (J 420 49)) := gf_mk (f := 1) (by decide) rfl rfl
theorem p420_49 {k : Nat} {x : Int64} {K : Hp → Prop} : sf (mk I J R Z) 420 11 49 k (.long x) K = (ip_fit k (.long x) = true ∧ K (mk I (st J 420 (vp_updL (J 420) 49 x)) R Z)) := sfJ (by decide) rfl rfl
theorem gi421 {i : Int32} {K : Int32 → Prop} : gi L xs (mk I J R Z) 0 421 i K = (ip_in i 1000 = true ∧ K (I 421 i.toNatClampNeg)) := giM (by decide) rfl (Or.inl rfl)
theorem si421 {i x : Int32} {K : Hp → Prop} : si (mk I J R Z) 0 421 i x K = (ip_in i 1000 = true ∧ K (mk (st I 421 (upd (I 421) i.toNatClampNeg (x))) J R Z)) := siM (by decide) rfl (Or.inl rfl)
theorem gi422 {i : Int32} {K : Int32 → Prop} : gi L xs (mk I J R Z) 0 422 i K = (ip_in i 6 = true ∧ K (I 422 i.toNatClampNeg)) := giM (by decide) rfl (Or.inl rfl)
theorem si422 {i x : Int32} {K : Hp → Prop} : si (mk I J R Z) 0 422 i x K = (ip_in i 6 = true ∧ K (mk (st I 422 (upd (I 422) i.toNatClampNeg (x))) J R Z)) := siM (by decide) rfl (Or.inl rfl)
theorem gl423 {i : Int32} {K : Int64 → Prop} : gl (mk I J R Z) 423 i K = (ip_in i 16 = true ∧ K (J 423 i.toNatClampNeg)) := glM (by decide) rfl
theorem sl423 {i : Int32} {x : Int64} {K : Hp → Prop} : sl (mk I J R Z) 423 i x K = (ip_in i 16 = true ∧ K (mk I (st J 423 (vp_updL (J 423) i.toNatClampNeg x)) R Z)) := slM (by decide) rfl
theorem gi424 {i : Int32} {K : Int32 → Prop} : gi L xs (mk I J R Z) 0 424 i K = (ip_in i 16 = true ∧ K (I 424 i.toNatClampNeg)) := giM (by decide) rfl (Or.inl rfl)
theorem si424 {i x : Int32} {K : Hp → Prop} : si (mk I J R Z) 0 424 i x K = (ip_in i 16 = true ∧ K (mk (st I 424 (upd (I 424) i.toNatClampNeg (x))) J R Z)) := siM (by decide) rfl (Or.inl rfl)
theorem gi425 {i : Int32} {K : Int32 → Prop} : gi L xs (mk I J R Z) 0 425 i K = (ip_in i 16 = true ∧ K (I 425 i.toNatClampNeg)) := giM (by decide) rfl (Or.inl rfl)
theorem si425 {i x : Int32} {K : Hp → Prop} : si (mk I J R Z) 0 425 i x K = (ip_in i 16 = true ∧ K (mk (st I 425 (upd (I 425) i.toNatClampNeg (x))) J R Z)) := siM (by decide) rfl (Or.inl rfl)
theorem gi426 {i : Int32} {K : Int32 → Prop} : gi L xs (mk I J R Z) 0 426 i K = (ip_in i 16 = true ∧ K (I 426 i.toNatClampNeg)) := giM (by decide) rfl (Or.inl rfl)
theorem si426 {i x : Int32} {K : Hp → Prop} : si (mk I J R Z) 0 426 i x K = (ip_in i 16 = true ∧ K (mk (st I 426 (upd (I 426) i.toNatClampNeg (x))) J R Z)) := siM (by decide) rfl (Or.inl rfl)
theorem gi427 {i : Int32} {K : Int32 → Prop} : gi L xs (mk I J R Z) 0 427 i K = (ip_in i 16 = true ∧ K (I 427 i.toNatClampNeg)) := giM (by decide) rfl (Or.inl rfl)
theorem si427 {i x : Int32} {K : Hp → Prop} : si (mk I J R Z) 0 427 i x K = (ip_in i 16 = true ∧ K (mk (st I 427 (upd (I 427) i.toNatClampNeg (x))) J R Z)) := siM (by decide) rfl (Or.inl rfl)
theorem gi428 {i : Int32} {K : Int32 → Prop} : gi L xs (mk I J R Z) 0 428 i K = (ip_in i 2 = true ∧ K (I 428 i.toNatClampNeg)) := giM (by decide) rfl (Or.inl rfl)
theorem si428 {i x : Int32} {K : Hp → Prop} : si (mk I J R Z) 0 428 i x K = (ip_in i 2 = true ∧ K (mk (st I 428 (upd (I 428) i.toNatClampNeg (x))) J R Z)) := siM (by decide) rfl (Or.inl rfl)
theorem gi429 {i : Int32} {K : Int32 → Prop} : gi L xs (mk I J R Z) 0 429 i K = (ip_in i 2 = true ∧ K (I 429 i.toNatClampNeg)) := giM (by decide) rfl (Or.inl rfl)
theorem si429 {i x : Int32} {K : Hp → Prop} : si (mk I J R Z) 0 429 i x K = (ip_in i 2 = true ∧ K (mk (st I 429 (upd (I 429) i.toNatClampNeg (x))) J R Z)) := siM (by decide) rfl (Or.inl rfl)
theorem gi430 {i : Int32} {K : Int32 → Prop} : gi L xs (mk I J R Z) 0 430 i K = (ip_in i 2000 = true ∧ K (I 430 i.toNatClampNeg)) := giM (by decide) rfl (Or.inl rfl)
theorem si430 {i x : Int32} {K : Hp → Prop} : si (mk I J R Z) 0 430 i x K = (ip_in i 2000 = true ∧ K (mk (st I 430 (upd (I 430) i.toNatClampNeg (x))) J R Z)) := siM (by decide) rfl (Or.inl rfl)
theorem gi431 {i : Int32} {K : Int32 → Prop} : gi L xs (mk I J R Z) 0 431 i K = (ip_in i 7 = true ∧ K (I 431 i.toNatClampNeg)) := giM (by decide) rfl (Or.inl rfl)
theorem si431 {i x : Int32} {K : Hp → Prop} : si (mk I J R Z) 0 431 i x K = (ip_in i 7 = true ∧ K (mk (st I 431 (upd (I 431) i.toNatClampNeg (x))) J R Z)) := siM (by decide) rfl (Or.inl rfl)
theorem gi432 {i : Int32} {K : Int32 → Prop} : gi L xs (mk I J R Z) 3 432 i K = (ip_in i 7 = true ∧ K (I 432 i.toNatClampNeg)) := giM (by decide) rfl (Or.inr (Or.inr rfl))
theorem si432 {i x : Int32} {K : Hp → Prop} : si (mk I J R Z) 3 432 i x K = (ip_in i 7 = true ∧ K (mk (st I 432 (upd (I 432) i.toNatClampNeg (na 3 x))) J R Z)) := siM (by decide) rfl (Or.inr (Or.inr rfl))
theorem gi433 {i : Int32} {K : Int32 → Prop} : gi L xs (mk I J R Z) 0 433 i K = (ip_in i 7 = true ∧ K (I 433 i.toNatClampNeg)) := giM (by decide) rfl (Or.inl rfl)
theorem si433 {i x : Int32} {K : Hp → Prop} : si (mk I J R Z) 0 433 i x K = (ip_in i 7 = true ∧ K (mk (st I 433 (upd (I 433) i.toNatClampNeg (x))) J R Z)) := siM (by decide) rfl (Or.inl rfl)
theorem gi434 {i : Int32} {K : Int32 → Prop} : gi L xs (mk I J R Z) 0 434 i K = (ip_in i 7 = true ∧ K (I 434 i.toNatClampNeg)) := giM (by decide) rfl (Or.inl rfl)
theorem si434 {i x : Int32} {K : Hp → Prop} : si (mk I J R Z) 0 434 i x K = (ip_in i 7 = true ∧ K (mk (st I 434 (upd (I 434) i.toNatClampNeg (x))) J R Z)) := siM (by decide) rfl (Or.inl rfl)
theorem gi435 {i : Int32} {K : Int32 → Prop} : gi L xs (mk I J R Z) 0 435 i K = (ip_in i 7 = true ∧ K (I 435 i.toNatClampNeg)) := giM (by decide) rfl (Or.inl rfl)
theorem si435 {i x : Int32} {K : Hp → Prop} : si (mk I J R Z) 0 435 i x K = (ip_in i 7 = true ∧ K (mk (st I 435 (upd (I 435) i.toNatClampNeg (x))) J R Z)) := siM (by decide) rfl (Or.inl rfl)
theorem gi436 {i : Int32} {K : Int32 → Prop} : gi L xs (mk I J R Z) 0 436 i K = (ip_in i 7 = true ∧ K (I 436 i.toNatClampNeg)) := giM (by decide) rfl (Or.inl rfl)
theorem si436 {i x : Int32} {K : Hp → Prop} : si (mk I J R Z) 0 436 i x K = (ip_in i 7 = true ∧ K (mk (st I 436 (upd (I 436) i.toNatClampNeg (x))) J R Z)) := siM (by decide) rfl (Or.inl rfl)
theorem gi437 {i : Int32} {K : Int32 → Prop} : gi L xs (mk I J R Z) 0 437 i K = (ip_in i 7 = true ∧ K (I 437 i.toNatClampNeg)) := giM (by decide) rfl (Or.inl rfl)
theorem si437 {i x : Int32} {K : Hp → Prop} : si (mk I J R Z) 0 437 i x K = (ip_in i 7 = true ∧ K (mk (st I 437 (upd (I 437) i.toNatClampNeg (x))) J R Z)) := siM (by decide) rfl (Or.inl rfl)
theorem gi438 {i : Int32} {K : Int32 → Prop} : gi L xs (mk I J R Z) 0 438 i K = (ip_in i 7 = true ∧ K (I 438 i.toNatClampNeg)) := giM (by decide) rfl (Or.inl rfl)
theorem si438 {i x : Int32} {K : Hp → Prop} : si (mk I J R Z) 0 438 i x K = (ip_in i 7 = true ∧ K (mk (st I 438 (upd (I 438) i.toNatClampNeg (x))) J R Z)) := siM (by decide) rfl (Or.inl rfl)
theorem gi439 {i : Int32} {K : Int32 → Prop} : gi L xs (mk I J R Z) 0 439 i K = (ip_in i 7 = true ∧ K (I 439 i.toNatClampNeg)) := giM (by decide) rfl (Or.inl rfl)
theorem si439 {i x : Int32} {K : Hp → Prop} : si (mk I J R Z) 0 439 i x K = (ip_in i 7 = true ∧ K (mk (st I 439 (upd (I 439) i.toNatClampNeg (x))) J R Z)) := siM (by decide) rfl (Or.inl rfl)
theorem gi440 {i : Int32} {K : Int32 → Prop} : gi L xs (mk I J R Z) 0 440 i K = (ip_in i 7 = true ∧ K (I 440 i.toNatClampNeg)) := giM (by decide) rfl (Or.inl rfl)
theorem si440 {i x : Int32} {K : Hp → Prop} : si (mk I J R Z) 0 440 i x K = (ip_in i 7 = true ∧ K (mk (st I 440 (upd (I 440) i.toNatClampNeg (x))) J R Z)) := siM (by decide) rfl (Or.inl rfl)
theorem gi441 {i : Int32} {K : Int32 → Prop} : gi L xs (mk I J R Z) 0 441 i K = (ip_in i 7 = true ∧ K (I 441 i.toNatClampNeg)) := giM (by decide) rfl (Or.inl rfl)
theorem si441 {i x : Int32} {K : Hp → Prop} : si (mk I J R Z) 0 441 i x K = (ip_in i 7 = true ∧ K (mk (st I 441 (upd (I 441) i.toNatClampNeg (x))) J R Z)) := siM (by decide) rfl (Or.inl rfl)
theorem gi442 {i : Int32} {K : Int32 → Prop} : gi L xs (mk I J R Z) 0 442 i K = (ip_in i 20 = true ∧ K (I 442 i.toNatClampNeg)) := giM (by decide) rfl (Or.inl rfl)
theorem si442 {i x : Int32} {K : Hp → Prop} : si (mk I J R Z) 0 442 i x K = (ip_in i 20 = true ∧ K (mk (st I 442 (upd (I 442) i.toNatClampNeg (x))) J R Z)) := siM (by decide) rfl (Or.inl rfl)
theorem gi443 {i : Int32} {K : Int32 → Prop} : gi L xs (mk I J R Z) 0 443 i K = (ip_in i 6 = true ∧ K (I 443 i.toNatClampNeg)) := giM (by decide) rfl (Or.inl rfl)
theorem si443 {i x : Int32} {K : Hp → Prop} : si (mk I J R Z) 0 443 i x K = (ip_in i 6 = true ∧ K (mk (st I 443 (upd (I 443) i.toNatClampNeg (x))) J R Z)) := siM (by decide) rfl (Or.inl rfl)
theorem gi444 {i : Int32} {K : Int32 → Prop} : gi L xs (mk I J R Z) 0 444 i K = (ip_in i 240 = true ∧ K (I 444 i.toNatClampNeg)) := giM (by decide) rfl (Or.inl rfl)
theorem si444 {i x : Int32} {K : Hp → Prop} : si (mk I J R Z) 0 444 i x K = (ip_in i 240 = true ∧ K (mk (st I 444 (upd (I 444) i.toNatClampNeg (x))) J R Z)) := siM (by decide) rfl (Or.inl rfl)
theorem gi445 {i : Int32} {K : Int32 → Prop} : gi L xs (mk I J R Z) 0 445 i K = (ip_in i 240 = true ∧ K (I 445 i.toNatClampNeg)) := giM (by decide) rfl (Or.inl rfl)
theorem si445 {i x : Int32} {K : Hp → Prop} : si (mk I J R Z) 0 445 i x K = (ip_in i 240 = true ∧ K (mk (st I 445 (upd (I 445) i.toNatClampNeg (x))) J R Z)) := siM (by decide) rfl (Or.inl rfl)
theorem gi446 {i : Int32} {K : Int32 → Prop} : gi L xs (mk I J R Z) 0 446 i K = (ip_in i 240 = true ∧ K (I 446 i.toNatClampNeg)) := giM (by decide) rfl (Or.inl rfl)
theorem si446 {i x : Int32} {K : Hp → Prop} : si (mk I J R Z) 0 446 i x K = (ip_in i 240 = true ∧ K (mk (st I 446 (upd (I 446) i.toNatClampNeg (x))) J R Z)) := siM (by decide) rfl (Or.inl rfl)
theorem gi451 {i : Int32} {K : Int32 → Prop} : gi L xs (mk I J R Z) 0 451 i K = (ip_in i 291 = true ∧ K (I 451 i.toNatClampNeg)) := giM (by decide) rfl (Or.inl rfl)
theorem si451 {i x : Int32} {K : Hp → Prop} : si (mk I J R Z) 0 451 i x K = (ip_in i 291 = true ∧ K (mk (st I 451 (upd (I 451) i.toNatClampNeg (x))) J R Z)) := siM (by decide) rfl (Or.inl rfl)
theorem gi452 {i : Int32} {K : Int32 → Prop} : gi L xs (mk I J R Z) 0 452 i K = (ip_in i 291 = true ∧ K (I 452 i.toNatClampNeg)) := giM (by decide) rfl (Or.inl rfl)
theorem si452 {i x : Int32} {K : Hp → Prop} : si (mk I J R Z) 0 452 i x K = (ip_in i 291 = true ∧ K (mk (st I 452 (upd (I 452) i.toNatClampNeg (x))) J R Z)) := siM (by decide) rfl (Or.inl rfl)
theorem gi453 {i : Int32} {K : Int32 → Prop} : gi L xs (mk I J R Z) 0 453 i K = (ip_in i 291 = true ∧ K (I 453 i.toNatClampNeg)) := giM (by decide) rfl (Or.inl rfl)
theorem si453 {i x : Int32} {K : Hp → Prop} : si (mk I J R Z) 0 453 i x K = (ip_in i 291 = true ∧ K (mk (st I 453 (upd (I 453) i.toNatClampNeg (x))) J R Z)) := siM (by decide) rfl (Or.inl rfl)
theorem gi454 {i : Int32} {K : Int32 → Prop} : gi L xs (mk I J R Z) 0 454 i K = (ip_in i 1164 = true ∧ K (I 454 i.toNatClampNeg)) := giM (by decide) rfl (Or.inl rfl)
theorem si454 {i x : Int32} {K : Hp → Prop} : si (mk I J R Z) 0 454 i x K = (ip_in i 1164 = true ∧ K (mk (st I 454 (upd (I 454) i.toNatClampNeg (x))) J R Z)) := siM (by decide) rfl (Or.inl rfl)
theorem gi455 {i : Int32} {K : Int32 → Prop} : gi L xs (mk I J R Z) 0 455 i K = (ip_in i 4656 = true ∧ K (I 455 i.toNatClampNeg)) := giM (by decide) rfl (Or.inl rfl)
theorem si455 {i x : Int32} {K : Hp → Prop} : si (mk I J R Z) 0 455 i x K = (ip_in i 4656 = true ∧ K (mk (st I 455 (upd (I 455) i.toNatClampNeg (x))) J R Z)) := siM (by decide) rfl (Or.inl rfl)
theorem gi456 {i : Int32} {K : Int32 → Prop} : gi L xs (mk I J R Z) 3 456 i K = (ip_in i 4 = true ∧ K (I 456 i.toNatClampNeg)) := giM (by decide) rfl (Or.inr (Or.inr rfl))
theorem si456 {i x : Int32} {K : Hp → Prop} : si (mk I J R Z) 3 456 i x K = (ip_in i 4 = true ∧ K (mk (st I 456 (upd (I 456) i.toNatClampNeg (na 3 x))) J R Z)) := siM (by decide) rfl (Or.inr (Or.inr rfl))
theorem gi457 {i : Int32} {K : Int32 → Prop} : gi L xs (mk I J R Z) 0 457 i K = (ip_in i 8 = true ∧ K (I 457 i.toNatClampNeg)) := giM (by decide) rfl (Or.inl rfl)
theorem si457 {i x : Int32} {K : Hp → Prop} : si (mk I J R Z) 0 457 i x K = (ip_in i 8 = true ∧ K (mk (st I 457 (upd (I 457) i.toNatClampNeg (x))) J R Z)) := siM (by decide) rfl (Or.inl rfl)
theorem gl458 {i : Int32} {K : Int64 → Prop} : gl (mk I J R Z) 458 i K = (ip_in i 1 = true ∧ K (J 458 i.toNatClampNeg)) := glM (by decide) rfl
theorem sl458 {i : Int32} {x : Int64} {K : Hp → Prop} : sl (mk I J R Z) 458 i x K = (ip_in i 1 = true ∧ K (mk I (st J 458 (vp_updL (J 458) i.toNatClampNeg x)) R Z)) := slM (by decide) rfl
theorem slot_at : ∀ k, k < 17 → ([131, 143, 155, 167, 179, 191, 203, 215, 227, 239, 251, 263, 275, 287, 299, 311, 323] : List Nat)[k]? = some (131 + 12 * k) := by decide +kernel
theorem mark_at : ∀ k, k < 4 → ([336, 357, 378, 399] : List Nat)[k]? = some (336 + 21 * k) := by decide +kernel
theorem isS_sl : ∀ k, k < 17 → isS (131 + 12 * k) := by unfold isS; decide +kernel
theorem isS_mk : ∀ k, k < 4 → isS (337 + 21 * k) := by unfold isS; decide +kernel
theorem isT_mw : ∀ k, k < 4 → isT (349 + 21 * k) 40 := by unfold isT; decide +kernel
theorem isT_ms : ∀ k, k < 4 → isT (353 + 21 * k) 8 := by unfold isT; decide +kernel
theorem mark_sh : ∀ k, k < 4 → SHT[336 + 21 * k - 64]? = some (13, 0, [0, 337 + 21 * k, 349 + 21 * k, 353 + 21 * k]) := by decide +kernel
theorem gr130 {k : Nat} {K : Nat → Prop} (hk : k < 17) : gr (mk I J R Z) 130 (nI k) K = K (131 + 12 * k) := by
  unfold gr
  rw [if_neg (by decide), ar_mk (a := 130) (by decide) rfl rfl]
  dsimp only
  rw [nI_clamp (by omega), slot_at k hk]
  have : ip_in (nI k) 17 = true := by
    unfold ip_in; rw [nI_clamp (by omega)]; simp [nI_pos' (show k < 2 ^ 31 by omega), hk]
  simp [this]
theorem gr335 {k : Nat} {K : Nat → Prop} (hk : k < 4) : gr (mk I J R Z) 335 (nI k) K = K (336 + 21 * k) := by
  unfold gr
  rw [if_neg (by decide), ar_mk (a := 335) (by decide) rfl rfl]
  dsimp only
  rw [nI_clamp (by omega), mark_at k hk]
  have : ip_in (nI k) 4 = true := by
    unfold ip_in; rw [nI_clamp (by omega)]; simp [nI_pos' (show k < 2 ^ 31 by omega), hk]
  simp [this]
end MEM
