/-! THE LAW'S WORLD: the region that the two constructors leave, read as the world of 111 cells -/
def zpos (k : Nat) : Nat := bif Nat.blt k 6 then k else bif Nat.beq k 15 then 81 else bif Nat.ble 16 k && Nat.blt k 22 then k + 59 else bif Nat.blt k 40 then k + 60 else bif Nat.blt k 100 then k - 34 else k
def zG (D : va_G) (f : Nat → ClassId) (n : Nat) : zz_C := (D, f, fun k => n + zpos k)
theorem zpos_inj : ∀ i, i < 111 → ∀ j, j < 111 → zpos i = zpos j → i = j := by decide +kernel
theorem zpos_lt : ∀ i, i < 111 → zpos i < 111 := by decide +kernel
theorem zpos_t : ∀ i, i < 20 → zpos (40 + 3 * i) = 6 + 3 * i := by decide +kernel
theorem zpos_c : ∀ i, i < 6 → zpos (16 + i) = 75 + i := by decide +kernel
theorem zpos_r : ∀ i, i < 6 → zpos (24 + 2 * i) = 84 + 2 * i := by decide +kernel
theorem zG_J (D : va_G) (f : Nat → ClassId) (n : Nat) : zz_J (zG D f n) := fun i j hi hj h => zpos_inj i hi j hj (by have h9 : n + zpos i = n + zpos j := h; omega)
def zM0 : zz_M := fun k => bif Nat.beq k 2 then yy_f 18 (-9) yy_o else bif Nat.beq k 3 then yy_f 6 (-9) yy_o else bif Nat.beq k 101 then yy_f 24 (-9) yy_o else bif Nat.ble 40 k && Nat.blt k 100 then (bif Nat.beq (k % 3) 2 then yy_f 18 (-9) yy_o else bif Nat.beq (k % 3) 0 then yy_f 6 (-9) yy_o else yy_o) else yy_o
theorem zvV : zV (fun _ => none) := ⟨fun _ _ _ h => (by cases h), fun _ _ _ h => (by cases h)⟩
theorem zI0 : zI zM0 (fun _ => none) [] := ⟨zvV, fun _ h => (by cases h), ⟨fun i hi => if_pos hi, fun i hi => if_pos hi⟩, 0, rfl, by decide, rfl, by decide, fun _ _ h => by cases h⟩
theorem zJ0 : zJ zM0 (fun _ => none) [] := ⟨zvV, fun _ h => (by cases h), fun i hi => if_pos hi, rfl, by decide, fun _ _ h => by cases h⟩
theorem zI_hi {M M1 : zz_M} {S : Nat → Option Nat} {hs : List (Nat → Option Nat)} (h : zI M S hs) (hh : zhi M M1) : zI M1 S hs := by
  obtain ⟨h1, h2, h3, nx, a1, a2, a3, a4, a5⟩ := h
  refine ⟨h1, h2, ztab_congr h3 (hh 2 (by decide)) (hh 3 (by decide)), nx, by rw [hh 4 (by decide)]; exact a1, a2, by rw [hh 4 (by decide)]; exact a3, a4, fun j T hj => ?_⟩
  have : (nx + 19 - j) % 20 < 20 := Nat.mod_lt _ (by decide)
  exact ztab_congr (a5 j T hj) (hh _ (by omega)) (hh _ (by omega))
theorem zJ_lo {M M1 : zz_M} {S : Nat → Option Nat} {hs : List (Nat → Option Nat)} (h : zJ M S hs) (hl : zlo M M1) : zJ M1 S hs := ⟨h.1, h.2.1, fun i hi => by rw [hl 101 (by decide)]; exact h.2.2.1 i hi, by rw [hl 100 (by decide)]; exact h.2.2.2.1, h.2.2.2.2.1, fun j T hj i hi => by rw [hl 102 (by decide)]; exact h.2.2.2.2.2 j T hj i hi⟩
theorem arrV_ext {c : ClassId} {n : Nat} {f g : Nat → Value} (h : ∀ i, i < n → f i = g i) : arrV c n f = arrV c n g := by
  unfold arrV
  congr 2
  funext i
  exact h i.val i.isLt
section ZW
def yy_A (G : zz_C) (b : Nat) (L : List va_E) (H : Heap) : Prop := ∀ (j : Nat) (e : va_E), L[j]? = some e → va_at G.1 vwCl (b + j, e) H
theorem yy_A.l {G : zz_C} {b : Nat} {A B : List va_E} {H : Heap} (h : yy_A G b (A ++ B) H) : yy_A G b A H := fun j e hj => h j e (by rw [List.getElem?_append_left (List.getElem?_eq_some_iff.mp hj).1]; exact hj)
theorem yy_A.r {G : zz_C} {b b' : Nat} {A B : List va_E} {H : Heap} (h : yy_A G b (A ++ B) H) (hb : b + A.length = b') : yy_A G b' B H := fun j e hj => by
  have := h (A.length + j) e (by rw [List.getElem?_append_right (by omega), show A.length + j - A.length = j by omega]; exact hj)
  rw [show b + (A.length + j) = b' + j by omega] at this
  exact this
theorem yy_A.t {G : zz_C} {b : Nat} {x : va_E} {A : List va_E} {H : Heap} (h : yy_A G b (x :: A) H) : yy_A G (b + 1) A H := fun j e hj => by
  have := h (j + 1) e hj
  rw [show b + (j + 1) = b + 1 + j by omega] at this
  exact this
theorem yy_A.tabs {G : zz_C} {b : Nat} {H : Heap} : ∀ {k : Nat}, yy_A G b (yy_tabs G b k) H → ∀ i, i < k → yy_A G (b + 3 * i) (yy_tab G (b + 3 * i)) H
  | 0, _, i, hi => absurd hi (by omega)
  | k + 1, h, i, hi => by
    have h' : yy_A G b (yy_tabs G b k ++ yy_tab G (b + 3 * k)) H := h
    by_cases c : i = k
    · subst c
      exact h'.r (by rw [yl_tabs])
    · exact yy_A.tabs h'.l i (by omega)
theorem yy_A.rows {G : zz_C} {b : Nat} {H : Heap} : ∀ {k : Nat}, yy_A G b (yy_rows G b k) H → ∀ i, i < k → yy_A G (b + 2 * i) (yy_row G (b + 2 * i) 243) H
  | 0, _, i, hi => absurd hi (by omega)
  | k + 1, h, i, hi => by
    have h' : yy_A G b (yy_rows G b k ++ yy_row G (b + 2 * k) 243) H := h
    by_cases c : i = k
    · subst c
      exact h'.r (by rw [yl_rows])
    · exact yy_A.rows h'.l i (by omega)
theorem zat {G : zz_C} {a a' : Nat} {e e' : va_E} {H : Heap} (h : va_at G.1 vwCl (a, e) H) (ha : a = a') (he : e = e') : va_at G.1 vwCl (a', e') H := by
  subst ha; subst he; exact h
variable {D : va_G} {f : Nat → ClassId} {n : Nat} {H : Heap}
abbrev zLL (D : va_G) (f : Nat → ClassId) (n : Nat) : List va_E := yy_own (zG D f n) n ++ yy_mod (zG D f n) (n + 100)
theorem zmq {a c : Nat} {C : ClassId} {g : Nat → Option Nat} {h : Nat → Nat} (hP : H[a]? = some (vp_cell C (c, .inr (.inr (.inr (.inr g)))))) (hg : ∀ i, i < c → g i = some (h i)) : H[a]? = some (vp_cell C (c, zz_rf h)) := by
  show H[a]? = some (vp_cell C (c, .inr (.inr (.inr (.inr (fun i => some (h i)))))))
  rw [hP, vp_cell_q, vp_cell_q]
  exact congrArg some (arrV_ext (fun i hi => by rw [hg i hi]))
theorem zmk_0 (h : yy_A (zG D f n) n (yy_own (zG D f n) n) H) : va_at D vwCl (n + zpos 0, zz_F (zG D f n) 0 (zM0 0)) H := zat (G := zG D f n) (h 0 _ rfl) (by have h9 : zpos 0 = 0 := rfl; omega) rfl
theorem zmk_1 (h : yy_A (zG D f n) (n + 1) (yy_tab (zG D f n) (n + 1)) H) : va_at D vwCl (n + zpos 1, zz_F (zG D f n) 1 (zM0 1)) H := zat (G := zG D f n) (h 0 _ rfl) (by have h9 : zpos 1 = 1 := rfl; omega) rfl
theorem zmk_2 (h : yy_A (zG D f n) (n + 1) (yy_tab (zG D f n) (n + 1)) H) : va_at D vwCl (n + zpos 2, zz_F (zG D f n) 2 (zM0 2)) H := zat (G := zG D f n) (h 1 _ rfl) (by have h9 : zpos 2 = 2 := rfl; omega) rfl
theorem zmk_3 (h : yy_A (zG D f n) (n + 1) (yy_tab (zG D f n) (n + 1)) H) : va_at D vwCl (n + zpos 3, zz_F (zG D f n) 3 (zM0 3)) H := zat (G := zG D f n) (h 2 _ rfl) (by have h9 : zpos 3 = 3 := rfl; omega) rfl
theorem zmk_4 (h : yy_A (zG D f n) (n + 4) (yy_past (zG D f n) (n + 4)) H) : va_at D vwCl (n + zpos 4, zz_F (zG D f n) 4 (zM0 4)) H := zat (G := zG D f n) (h 0 _ rfl) (by have h9 : zpos 4 = 4 := rfl; omega) rfl
theorem zmk_5 (h : yy_A (zG D f n) (n + 4) (yy_past (zG D f n) (n + 4)) H) : va_at D vwCl (n + zpos 5, zz_F (zG D f n) 5 (zM0 5)) H := zmq (h 1 _ rfl) (fun i hi => by show (if i < 20 then some (n + 4 + 2 + 3 * i) else none) = some (n + zpos (40 + 3 * i)); rw [if_pos hi, zpos_t i hi]; congr 1; omega)
theorem zmk_6 (h : yy_A (zG D f n) (n + 66) (yy_read (zG D f n) (n + 66)) H) : va_at D vwCl (n + zpos 6, zz_F (zG D f n) 6 (zM0 6)) H := zat (G := zG D f n) (h 0 _ rfl) (by have h9 : zpos 6 = 66 := rfl; omega) rfl
theorem zmk_7 (h : yy_A (zG D f n) (n + 66) (yy_read (zG D f n) (n + 66)) H) : va_at D vwCl (n + zpos 7, zz_F (zG D f n) 7 (zM0 7)) H := zat (G := zG D f n) (h 1 _ rfl) (by have h9 : zpos 7 = 67 := rfl; omega) rfl
theorem zmk_8 (h : yy_A (zG D f n) (n + 66) (yy_read (zG D f n) (n + 66)) H) : va_at D vwCl (n + zpos 8, zz_F (zG D f n) 8 (zM0 8)) H := zat (G := zG D f n) (h 2 _ rfl) (by have h9 : zpos 8 = 68 := rfl; omega) rfl
theorem zmk_9 (h : yy_A (zG D f n) (n + 66) (yy_read (zG D f n) (n + 66)) H) : va_at D vwCl (n + zpos 9, zz_F (zG D f n) 9 (zM0 9)) H := zat (G := zG D f n) (h 3 _ rfl) (by have h9 : zpos 9 = 69 := rfl; omega) rfl
theorem zmk_10 (h : yy_A (zG D f n) (n + 66) (yy_read (zG D f n) (n + 66)) H) : va_at D vwCl (n + zpos 10, zz_F (zG D f n) 10 (zM0 10)) H := zat (G := zG D f n) (h 4 _ rfl) (by have h9 : zpos 10 = 70 := rfl; omega) rfl
theorem zmk_11 (h : yy_A (zG D f n) (n + 71) (yy_norm (zG D f n) (n + 71)) H) : va_at D vwCl (n + zpos 11, zz_F (zG D f n) 11 (zM0 11)) H := zat (G := zG D f n) (h 0 _ rfl) (by have h9 : zpos 11 = 71 := rfl; omega) rfl
theorem zmk_12 (h : yy_A (zG D f n) (n + 71) (yy_norm (zG D f n) (n + 71)) H) : va_at D vwCl (n + zpos 12, zz_F (zG D f n) 12 (zM0 12)) H := zat (G := zG D f n) (h 1 _ rfl) (by have h9 : zpos 12 = 72 := rfl; omega) rfl
theorem zmk_13 (h : yy_A (zG D f n) (n + 73) (yy_cnt (zG D f n) (n + 73)) H) : va_at D vwCl (n + zpos 13, zz_F (zG D f n) 13 (zM0 13)) H := zat (G := zG D f n) (h 0 _ rfl) (by have h9 : zpos 13 = 73 := rfl; omega) rfl
theorem zmk_14 (h : yy_A (zG D f n) (n + 73) (yy_cnt (zG D f n) (n + 73)) H) : va_at D vwCl (n + zpos 14, zz_F (zG D f n) 14 (zM0 14)) H := zmq (h 1 _ rfl) (fun i hi => by show (if i < 6 then some (n + 73 + 1 + 1 + i) else none) = some (n + zpos (16 + i)); rw [zpos_c i hi, if_pos hi]; congr 1; omega)
theorem zmk_15 (h : yy_A (zG D f n) (n + 73) (yy_cnt (zG D f n) (n + 73)) H) : va_at D vwCl (n + zpos 15, zz_F (zG D f n) 15 (zM0 15)) H := zat (G := zG D f n) (h 8 _ rfl) (by have h9 : zpos 15 = 81 := rfl; omega) rfl
theorem zmk_16 (h : yy_A (zG D f n) (n + 73) (yy_cnt (zG D f n) (n + 73)) H) : va_at D vwCl (n + zpos 16, zz_F (zG D f n) 16 (zM0 16)) H := zat (G := zG D f n) (h 2 _ rfl) (by have h9 : zpos 16 = 75 := rfl; omega) rfl
theorem zmk_17 (h : yy_A (zG D f n) (n + 73) (yy_cnt (zG D f n) (n + 73)) H) : va_at D vwCl (n + zpos 17, zz_F (zG D f n) 17 (zM0 17)) H := zat (G := zG D f n) (h 3 _ rfl) (by have h9 : zpos 17 = 76 := rfl; omega) rfl
theorem zmk_18 (h : yy_A (zG D f n) (n + 73) (yy_cnt (zG D f n) (n + 73)) H) : va_at D vwCl (n + zpos 18, zz_F (zG D f n) 18 (zM0 18)) H := zat (G := zG D f n) (h 4 _ rfl) (by have h9 : zpos 18 = 77 := rfl; omega) rfl
theorem zmk_19 (h : yy_A (zG D f n) (n + 73) (yy_cnt (zG D f n) (n + 73)) H) : va_at D vwCl (n + zpos 19, zz_F (zG D f n) 19 (zM0 19)) H := zat (G := zG D f n) (h 5 _ rfl) (by have h9 : zpos 19 = 78 := rfl; omega) rfl
theorem zmk_20 (h : yy_A (zG D f n) (n + 73) (yy_cnt (zG D f n) (n + 73)) H) : va_at D vwCl (n + zpos 20, zz_F (zG D f n) 20 (zM0 20)) H := zat (G := zG D f n) (h 6 _ rfl) (by have h9 : zpos 20 = 79 := rfl; omega) rfl
theorem zmk_21 (h : yy_A (zG D f n) (n + 73) (yy_cnt (zG D f n) (n + 73)) H) : va_at D vwCl (n + zpos 21, zz_F (zG D f n) 21 (zM0 21)) H := zat (G := zG D f n) (h 7 _ rfl) (by have h9 : zpos 21 = 80 := rfl; omega) rfl
theorem zmk_22 (h : yy_A (zG D f n) (n + 82) (yy_forms (zG D f n) (n + 82)) H) : va_at D vwCl (n + zpos 22, zz_F (zG D f n) 22 (zM0 22)) H := zat (G := zG D f n) (h 0 _ rfl) (by have h9 : zpos 22 = 82 := rfl; omega) rfl
theorem zmk_23 (h : yy_A (zG D f n) (n + 82) (yy_forms (zG D f n) (n + 82)) H) : va_at D vwCl (n + zpos 23, zz_F (zG D f n) 23 (zM0 23)) H := zmq (h 1 _ rfl) (fun i hi => by show (if i < 6 then some (n + 82 + 2 + 2 * i) else none) = some (n + zpos (24 + 2 * i)); rw [if_pos hi, zpos_r i hi]; congr 1; omega)
theorem zmk_24 (h : yy_A (zG D f n) (n + 82 + 2 + 2 * 0) (yy_row (zG D f n) (n + 82 + 2 + 2 * 0) 243) H) : va_at D vwCl (n + zpos 24, zz_F (zG D f n) 24 (zM0 24)) H := zat (G := zG D f n) (h 0 _ rfl) (by have h9 : zpos 24 = 84 := rfl; omega) rfl
theorem zmk_25 (h : yy_A (zG D f n) (n + 82 + 2 + 2 * 0) (yy_row (zG D f n) (n + 82 + 2 + 2 * 0) 243) H) : va_at D vwCl (n + zpos 25, zz_F (zG D f n) 25 (zM0 25)) H := zat (G := zG D f n) (h 1 _ rfl) (by have h9 : zpos 25 = 85 := rfl; omega) rfl
theorem zmk_26 (h : yy_A (zG D f n) (n + 82 + 2 + 2 * 1) (yy_row (zG D f n) (n + 82 + 2 + 2 * 1) 243) H) : va_at D vwCl (n + zpos 26, zz_F (zG D f n) 26 (zM0 26)) H := zat (G := zG D f n) (h 0 _ rfl) (by have h9 : zpos 26 = 86 := rfl; omega) rfl
theorem zmk_27 (h : yy_A (zG D f n) (n + 82 + 2 + 2 * 1) (yy_row (zG D f n) (n + 82 + 2 + 2 * 1) 243) H) : va_at D vwCl (n + zpos 27, zz_F (zG D f n) 27 (zM0 27)) H := zat (G := zG D f n) (h 1 _ rfl) (by have h9 : zpos 27 = 87 := rfl; omega) rfl
theorem zmk_28 (h : yy_A (zG D f n) (n + 82 + 2 + 2 * 2) (yy_row (zG D f n) (n + 82 + 2 + 2 * 2) 243) H) : va_at D vwCl (n + zpos 28, zz_F (zG D f n) 28 (zM0 28)) H := zat (G := zG D f n) (h 0 _ rfl) (by have h9 : zpos 28 = 88 := rfl; omega) rfl
theorem zmk_29 (h : yy_A (zG D f n) (n + 82 + 2 + 2 * 2) (yy_row (zG D f n) (n + 82 + 2 + 2 * 2) 243) H) : va_at D vwCl (n + zpos 29, zz_F (zG D f n) 29 (zM0 29)) H := zat (G := zG D f n) (h 1 _ rfl) (by have h9 : zpos 29 = 89 := rfl; omega) rfl
theorem zmk_30 (h : yy_A (zG D f n) (n + 82 + 2 + 2 * 3) (yy_row (zG D f n) (n + 82 + 2 + 2 * 3) 243) H) : va_at D vwCl (n + zpos 30, zz_F (zG D f n) 30 (zM0 30)) H := zat (G := zG D f n) (h 0 _ rfl) (by have h9 : zpos 30 = 90 := rfl; omega) rfl
theorem zmk_31 (h : yy_A (zG D f n) (n + 82 + 2 + 2 * 3) (yy_row (zG D f n) (n + 82 + 2 + 2 * 3) 243) H) : va_at D vwCl (n + zpos 31, zz_F (zG D f n) 31 (zM0 31)) H := zat (G := zG D f n) (h 1 _ rfl) (by have h9 : zpos 31 = 91 := rfl; omega) rfl
theorem zmk_32 (h : yy_A (zG D f n) (n + 82 + 2 + 2 * 4) (yy_row (zG D f n) (n + 82 + 2 + 2 * 4) 243) H) : va_at D vwCl (n + zpos 32, zz_F (zG D f n) 32 (zM0 32)) H := zat (G := zG D f n) (h 0 _ rfl) (by have h9 : zpos 32 = 92 := rfl; omega) rfl
theorem zmk_33 (h : yy_A (zG D f n) (n + 82 + 2 + 2 * 4) (yy_row (zG D f n) (n + 82 + 2 + 2 * 4) 243) H) : va_at D vwCl (n + zpos 33, zz_F (zG D f n) 33 (zM0 33)) H := zat (G := zG D f n) (h 1 _ rfl) (by have h9 : zpos 33 = 93 := rfl; omega) rfl
theorem zmk_34 (h : yy_A (zG D f n) (n + 82 + 2 + 2 * 5) (yy_row (zG D f n) (n + 82 + 2 + 2 * 5) 243) H) : va_at D vwCl (n + zpos 34, zz_F (zG D f n) 34 (zM0 34)) H := zat (G := zG D f n) (h 0 _ rfl) (by have h9 : zpos 34 = 94 := rfl; omega) rfl
theorem zmk_35 (h : yy_A (zG D f n) (n + 82 + 2 + 2 * 5) (yy_row (zG D f n) (n + 82 + 2 + 2 * 5) 243) H) : va_at D vwCl (n + zpos 35, zz_F (zG D f n) 35 (zM0 35)) H := zat (G := zG D f n) (h 1 _ rfl) (by have h9 : zpos 35 = 95 := rfl; omega) rfl
theorem zmk_36 (h : yy_A (zG D f n) (n + 96) (yy_row (zG D f n) (n + 96) 2187) H) : va_at D vwCl (n + zpos 36, zz_F (zG D f n) 36 (zM0 36)) H := zat (G := zG D f n) (h 0 _ rfl) (by have h9 : zpos 36 = 96 := rfl; omega) rfl
theorem zmk_37 (h : yy_A (zG D f n) (n + 96) (yy_row (zG D f n) (n + 96) 2187) H) : va_at D vwCl (n + zpos 37, zz_F (zG D f n) 37 (zM0 37)) H := zat (G := zG D f n) (h 1 _ rfl) (by have h9 : zpos 37 = 97 := rfl; omega) rfl
theorem zmk_38 (h : yy_A (zG D f n) (n + 98) (yy_row (zG D f n) (n + 98) 2187) H) : va_at D vwCl (n + zpos 38, zz_F (zG D f n) 38 (zM0 38)) H := zat (G := zG D f n) (h 0 _ rfl) (by have h9 : zpos 38 = 98 := rfl; omega) rfl
theorem zmk_39 (h : yy_A (zG D f n) (n + 98) (yy_row (zG D f n) (n + 98) 2187) H) : va_at D vwCl (n + zpos 39, zz_F (zG D f n) 39 (zM0 39)) H := zat (G := zG D f n) (h 1 _ rfl) (by have h9 : zpos 39 = 99 := rfl; omega) rfl
theorem zmk_40 (h : yy_A (zG D f n) (n + 4 + 2 + 3 * 0) (yy_tab (zG D f n) (n + 4 + 2 + 3 * 0)) H) : va_at D vwCl (n + zpos 40, zz_F (zG D f n) 40 (zM0 40)) H := zat (G := zG D f n) (h 0 _ rfl) (by have h9 : zpos 40 = 6 := rfl; omega) rfl
theorem zmk_41 (h : yy_A (zG D f n) (n + 4 + 2 + 3 * 0) (yy_tab (zG D f n) (n + 4 + 2 + 3 * 0)) H) : va_at D vwCl (n + zpos 41, zz_F (zG D f n) 41 (zM0 41)) H := zat (G := zG D f n) (h 1 _ rfl) (by have h9 : zpos 41 = 7 := rfl; omega) rfl
theorem zmk_42 (h : yy_A (zG D f n) (n + 4 + 2 + 3 * 0) (yy_tab (zG D f n) (n + 4 + 2 + 3 * 0)) H) : va_at D vwCl (n + zpos 42, zz_F (zG D f n) 42 (zM0 42)) H := zat (G := zG D f n) (h 2 _ rfl) (by have h9 : zpos 42 = 8 := rfl; omega) rfl
theorem zmk_43 (h : yy_A (zG D f n) (n + 4 + 2 + 3 * 1) (yy_tab (zG D f n) (n + 4 + 2 + 3 * 1)) H) : va_at D vwCl (n + zpos 43, zz_F (zG D f n) 43 (zM0 43)) H := zat (G := zG D f n) (h 0 _ rfl) (by have h9 : zpos 43 = 9 := rfl; omega) rfl
theorem zmk_44 (h : yy_A (zG D f n) (n + 4 + 2 + 3 * 1) (yy_tab (zG D f n) (n + 4 + 2 + 3 * 1)) H) : va_at D vwCl (n + zpos 44, zz_F (zG D f n) 44 (zM0 44)) H := zat (G := zG D f n) (h 1 _ rfl) (by have h9 : zpos 44 = 10 := rfl; omega) rfl
theorem zmk_45 (h : yy_A (zG D f n) (n + 4 + 2 + 3 * 1) (yy_tab (zG D f n) (n + 4 + 2 + 3 * 1)) H) : va_at D vwCl (n + zpos 45, zz_F (zG D f n) 45 (zM0 45)) H := zat (G := zG D f n) (h 2 _ rfl) (by have h9 : zpos 45 = 11 := rfl; omega) rfl
theorem zmk_46 (h : yy_A (zG D f n) (n + 4 + 2 + 3 * 2) (yy_tab (zG D f n) (n + 4 + 2 + 3 * 2)) H) : va_at D vwCl (n + zpos 46, zz_F (zG D f n) 46 (zM0 46)) H := zat (G := zG D f n) (h 0 _ rfl) (by have h9 : zpos 46 = 12 := rfl; omega) rfl
theorem zmk_47 (h : yy_A (zG D f n) (n + 4 + 2 + 3 * 2) (yy_tab (zG D f n) (n + 4 + 2 + 3 * 2)) H) : va_at D vwCl (n + zpos 47, zz_F (zG D f n) 47 (zM0 47)) H := zat (G := zG D f n) (h 1 _ rfl) (by have h9 : zpos 47 = 13 := rfl; omega) rfl
theorem zmk_48 (h : yy_A (zG D f n) (n + 4 + 2 + 3 * 2) (yy_tab (zG D f n) (n + 4 + 2 + 3 * 2)) H) : va_at D vwCl (n + zpos 48, zz_F (zG D f n) 48 (zM0 48)) H := zat (G := zG D f n) (h 2 _ rfl) (by have h9 : zpos 48 = 14 := rfl; omega) rfl
theorem zmk_49 (h : yy_A (zG D f n) (n + 4 + 2 + 3 * 3) (yy_tab (zG D f n) (n + 4 + 2 + 3 * 3)) H) : va_at D vwCl (n + zpos 49, zz_F (zG D f n) 49 (zM0 49)) H := zat (G := zG D f n) (h 0 _ rfl) (by have h9 : zpos 49 = 15 := rfl; omega) rfl
theorem zmk_50 (h : yy_A (zG D f n) (n + 4 + 2 + 3 * 3) (yy_tab (zG D f n) (n + 4 + 2 + 3 * 3)) H) : va_at D vwCl (n + zpos 50, zz_F (zG D f n) 50 (zM0 50)) H := zat (G := zG D f n) (h 1 _ rfl) (by have h9 : zpos 50 = 16 := rfl; omega) rfl
theorem zmk_51 (h : yy_A (zG D f n) (n + 4 + 2 + 3 * 3) (yy_tab (zG D f n) (n + 4 + 2 + 3 * 3)) H) : va_at D vwCl (n + zpos 51, zz_F (zG D f n) 51 (zM0 51)) H := zat (G := zG D f n) (h 2 _ rfl) (by have h9 : zpos 51 = 17 := rfl; omega) rfl
theorem zmk_52 (h : yy_A (zG D f n) (n + 4 + 2 + 3 * 4) (yy_tab (zG D f n) (n + 4 + 2 + 3 * 4)) H) : va_at D vwCl (n + zpos 52, zz_F (zG D f n) 52 (zM0 52)) H := zat (G := zG D f n) (h 0 _ rfl) (by have h9 : zpos 52 = 18 := rfl; omega) rfl
theorem zmk_53 (h : yy_A (zG D f n) (n + 4 + 2 + 3 * 4) (yy_tab (zG D f n) (n + 4 + 2 + 3 * 4)) H) : va_at D vwCl (n + zpos 53, zz_F (zG D f n) 53 (zM0 53)) H := zat (G := zG D f n) (h 1 _ rfl) (by have h9 : zpos 53 = 19 := rfl; omega) rfl
theorem zmk_54 (h : yy_A (zG D f n) (n + 4 + 2 + 3 * 4) (yy_tab (zG D f n) (n + 4 + 2 + 3 * 4)) H) : va_at D vwCl (n + zpos 54, zz_F (zG D f n) 54 (zM0 54)) H := zat (G := zG D f n) (h 2 _ rfl) (by have h9 : zpos 54 = 20 := rfl; omega) rfl
theorem zmk_55 (h : yy_A (zG D f n) (n + 4 + 2 + 3 * 5) (yy_tab (zG D f n) (n + 4 + 2 + 3 * 5)) H) : va_at D vwCl (n + zpos 55, zz_F (zG D f n) 55 (zM0 55)) H := zat (G := zG D f n) (h 0 _ rfl) (by have h9 : zpos 55 = 21 := rfl; omega) rfl
theorem zmk_56 (h : yy_A (zG D f n) (n + 4 + 2 + 3 * 5) (yy_tab (zG D f n) (n + 4 + 2 + 3 * 5)) H) : va_at D vwCl (n + zpos 56, zz_F (zG D f n) 56 (zM0 56)) H := zat (G := zG D f n) (h 1 _ rfl) (by have h9 : zpos 56 = 22 := rfl; omega) rfl
theorem zmk_57 (h : yy_A (zG D f n) (n + 4 + 2 + 3 * 5) (yy_tab (zG D f n) (n + 4 + 2 + 3 * 5)) H) : va_at D vwCl (n + zpos 57, zz_F (zG D f n) 57 (zM0 57)) H := zat (G := zG D f n) (h 2 _ rfl) (by have h9 : zpos 57 = 23 := rfl; omega) rfl
theorem zmk_58 (h : yy_A (zG D f n) (n + 4 + 2 + 3 * 6) (yy_tab (zG D f n) (n + 4 + 2 + 3 * 6)) H) : va_at D vwCl (n + zpos 58, zz_F (zG D f n) 58 (zM0 58)) H := zat (G := zG D f n) (h 0 _ rfl) (by have h9 : zpos 58 = 24 := rfl; omega) rfl
theorem zmk_59 (h : yy_A (zG D f n) (n + 4 + 2 + 3 * 6) (yy_tab (zG D f n) (n + 4 + 2 + 3 * 6)) H) : va_at D vwCl (n + zpos 59, zz_F (zG D f n) 59 (zM0 59)) H := zat (G := zG D f n) (h 1 _ rfl) (by have h9 : zpos 59 = 25 := rfl; omega) rfl
theorem zmk_60 (h : yy_A (zG D f n) (n + 4 + 2 + 3 * 6) (yy_tab (zG D f n) (n + 4 + 2 + 3 * 6)) H) : va_at D vwCl (n + zpos 60, zz_F (zG D f n) 60 (zM0 60)) H := zat (G := zG D f n) (h 2 _ rfl) (by have h9 : zpos 60 = 26 := rfl; omega) rfl
theorem zmk_61 (h : yy_A (zG D f n) (n + 4 + 2 + 3 * 7) (yy_tab (zG D f n) (n + 4 + 2 + 3 * 7)) H) : va_at D vwCl (n + zpos 61, zz_F (zG D f n) 61 (zM0 61)) H := zat (G := zG D f n) (h 0 _ rfl) (by have h9 : zpos 61 = 27 := rfl; omega) rfl
theorem zmk_62 (h : yy_A (zG D f n) (n + 4 + 2 + 3 * 7) (yy_tab (zG D f n) (n + 4 + 2 + 3 * 7)) H) : va_at D vwCl (n + zpos 62, zz_F (zG D f n) 62 (zM0 62)) H := zat (G := zG D f n) (h 1 _ rfl) (by have h9 : zpos 62 = 28 := rfl; omega) rfl
theorem zmk_63 (h : yy_A (zG D f n) (n + 4 + 2 + 3 * 7) (yy_tab (zG D f n) (n + 4 + 2 + 3 * 7)) H) : va_at D vwCl (n + zpos 63, zz_F (zG D f n) 63 (zM0 63)) H := zat (G := zG D f n) (h 2 _ rfl) (by have h9 : zpos 63 = 29 := rfl; omega) rfl
theorem zmk_64 (h : yy_A (zG D f n) (n + 4 + 2 + 3 * 8) (yy_tab (zG D f n) (n + 4 + 2 + 3 * 8)) H) : va_at D vwCl (n + zpos 64, zz_F (zG D f n) 64 (zM0 64)) H := zat (G := zG D f n) (h 0 _ rfl) (by have h9 : zpos 64 = 30 := rfl; omega) rfl
theorem zmk_65 (h : yy_A (zG D f n) (n + 4 + 2 + 3 * 8) (yy_tab (zG D f n) (n + 4 + 2 + 3 * 8)) H) : va_at D vwCl (n + zpos 65, zz_F (zG D f n) 65 (zM0 65)) H := zat (G := zG D f n) (h 1 _ rfl) (by have h9 : zpos 65 = 31 := rfl; omega) rfl
theorem zmk_66 (h : yy_A (zG D f n) (n + 4 + 2 + 3 * 8) (yy_tab (zG D f n) (n + 4 + 2 + 3 * 8)) H) : va_at D vwCl (n + zpos 66, zz_F (zG D f n) 66 (zM0 66)) H := zat (G := zG D f n) (h 2 _ rfl) (by have h9 : zpos 66 = 32 := rfl; omega) rfl
theorem zmk_67 (h : yy_A (zG D f n) (n + 4 + 2 + 3 * 9) (yy_tab (zG D f n) (n + 4 + 2 + 3 * 9)) H) : va_at D vwCl (n + zpos 67, zz_F (zG D f n) 67 (zM0 67)) H := zat (G := zG D f n) (h 0 _ rfl) (by have h9 : zpos 67 = 33 := rfl; omega) rfl
theorem zmk_68 (h : yy_A (zG D f n) (n + 4 + 2 + 3 * 9) (yy_tab (zG D f n) (n + 4 + 2 + 3 * 9)) H) : va_at D vwCl (n + zpos 68, zz_F (zG D f n) 68 (zM0 68)) H := zat (G := zG D f n) (h 1 _ rfl) (by have h9 : zpos 68 = 34 := rfl; omega) rfl
theorem zmk_69 (h : yy_A (zG D f n) (n + 4 + 2 + 3 * 9) (yy_tab (zG D f n) (n + 4 + 2 + 3 * 9)) H) : va_at D vwCl (n + zpos 69, zz_F (zG D f n) 69 (zM0 69)) H := zat (G := zG D f n) (h 2 _ rfl) (by have h9 : zpos 69 = 35 := rfl; omega) rfl
theorem zmk_70 (h : yy_A (zG D f n) (n + 4 + 2 + 3 * 10) (yy_tab (zG D f n) (n + 4 + 2 + 3 * 10)) H) : va_at D vwCl (n + zpos 70, zz_F (zG D f n) 70 (zM0 70)) H := zat (G := zG D f n) (h 0 _ rfl) (by have h9 : zpos 70 = 36 := rfl; omega) rfl
theorem zmk_71 (h : yy_A (zG D f n) (n + 4 + 2 + 3 * 10) (yy_tab (zG D f n) (n + 4 + 2 + 3 * 10)) H) : va_at D vwCl (n + zpos 71, zz_F (zG D f n) 71 (zM0 71)) H := zat (G := zG D f n) (h 1 _ rfl) (by have h9 : zpos 71 = 37 := rfl; omega) rfl
theorem zmk_72 (h : yy_A (zG D f n) (n + 4 + 2 + 3 * 10) (yy_tab (zG D f n) (n + 4 + 2 + 3 * 10)) H) : va_at D vwCl (n + zpos 72, zz_F (zG D f n) 72 (zM0 72)) H := zat (G := zG D f n) (h 2 _ rfl) (by have h9 : zpos 72 = 38 := rfl; omega) rfl
theorem zmk_73 (h : yy_A (zG D f n) (n + 4 + 2 + 3 * 11) (yy_tab (zG D f n) (n + 4 + 2 + 3 * 11)) H) : va_at D vwCl (n + zpos 73, zz_F (zG D f n) 73 (zM0 73)) H := zat (G := zG D f n) (h 0 _ rfl) (by have h9 : zpos 73 = 39 := rfl; omega) rfl
theorem zmk_74 (h : yy_A (zG D f n) (n + 4 + 2 + 3 * 11) (yy_tab (zG D f n) (n + 4 + 2 + 3 * 11)) H) : va_at D vwCl (n + zpos 74, zz_F (zG D f n) 74 (zM0 74)) H := zat (G := zG D f n) (h 1 _ rfl) (by have h9 : zpos 74 = 40 := rfl; omega) rfl
theorem zmk_75 (h : yy_A (zG D f n) (n + 4 + 2 + 3 * 11) (yy_tab (zG D f n) (n + 4 + 2 + 3 * 11)) H) : va_at D vwCl (n + zpos 75, zz_F (zG D f n) 75 (zM0 75)) H := zat (G := zG D f n) (h 2 _ rfl) (by have h9 : zpos 75 = 41 := rfl; omega) rfl
theorem zmk_76 (h : yy_A (zG D f n) (n + 4 + 2 + 3 * 12) (yy_tab (zG D f n) (n + 4 + 2 + 3 * 12)) H) : va_at D vwCl (n + zpos 76, zz_F (zG D f n) 76 (zM0 76)) H := zat (G := zG D f n) (h 0 _ rfl) (by have h9 : zpos 76 = 42 := rfl; omega) rfl
theorem zmk_77 (h : yy_A (zG D f n) (n + 4 + 2 + 3 * 12) (yy_tab (zG D f n) (n + 4 + 2 + 3 * 12)) H) : va_at D vwCl (n + zpos 77, zz_F (zG D f n) 77 (zM0 77)) H := zat (G := zG D f n) (h 1 _ rfl) (by have h9 : zpos 77 = 43 := rfl; omega) rfl
theorem zmk_78 (h : yy_A (zG D f n) (n + 4 + 2 + 3 * 12) (yy_tab (zG D f n) (n + 4 + 2 + 3 * 12)) H) : va_at D vwCl (n + zpos 78, zz_F (zG D f n) 78 (zM0 78)) H := zat (G := zG D f n) (h 2 _ rfl) (by have h9 : zpos 78 = 44 := rfl; omega) rfl
theorem zmk_79 (h : yy_A (zG D f n) (n + 4 + 2 + 3 * 13) (yy_tab (zG D f n) (n + 4 + 2 + 3 * 13)) H) : va_at D vwCl (n + zpos 79, zz_F (zG D f n) 79 (zM0 79)) H := zat (G := zG D f n) (h 0 _ rfl) (by have h9 : zpos 79 = 45 := rfl; omega) rfl
theorem zmk_80 (h : yy_A (zG D f n) (n + 4 + 2 + 3 * 13) (yy_tab (zG D f n) (n + 4 + 2 + 3 * 13)) H) : va_at D vwCl (n + zpos 80, zz_F (zG D f n) 80 (zM0 80)) H := zat (G := zG D f n) (h 1 _ rfl) (by have h9 : zpos 80 = 46 := rfl; omega) rfl
theorem zmk_81 (h : yy_A (zG D f n) (n + 4 + 2 + 3 * 13) (yy_tab (zG D f n) (n + 4 + 2 + 3 * 13)) H) : va_at D vwCl (n + zpos 81, zz_F (zG D f n) 81 (zM0 81)) H := zat (G := zG D f n) (h 2 _ rfl) (by have h9 : zpos 81 = 47 := rfl; omega) rfl
theorem zmk_82 (h : yy_A (zG D f n) (n + 4 + 2 + 3 * 14) (yy_tab (zG D f n) (n + 4 + 2 + 3 * 14)) H) : va_at D vwCl (n + zpos 82, zz_F (zG D f n) 82 (zM0 82)) H := zat (G := zG D f n) (h 0 _ rfl) (by have h9 : zpos 82 = 48 := rfl; omega) rfl
theorem zmk_83 (h : yy_A (zG D f n) (n + 4 + 2 + 3 * 14) (yy_tab (zG D f n) (n + 4 + 2 + 3 * 14)) H) : va_at D vwCl (n + zpos 83, zz_F (zG D f n) 83 (zM0 83)) H := zat (G := zG D f n) (h 1 _ rfl) (by have h9 : zpos 83 = 49 := rfl; omega) rfl
theorem zmk_84 (h : yy_A (zG D f n) (n + 4 + 2 + 3 * 14) (yy_tab (zG D f n) (n + 4 + 2 + 3 * 14)) H) : va_at D vwCl (n + zpos 84, zz_F (zG D f n) 84 (zM0 84)) H := zat (G := zG D f n) (h 2 _ rfl) (by have h9 : zpos 84 = 50 := rfl; omega) rfl
theorem zmk_85 (h : yy_A (zG D f n) (n + 4 + 2 + 3 * 15) (yy_tab (zG D f n) (n + 4 + 2 + 3 * 15)) H) : va_at D vwCl (n + zpos 85, zz_F (zG D f n) 85 (zM0 85)) H := zat (G := zG D f n) (h 0 _ rfl) (by have h9 : zpos 85 = 51 := rfl; omega) rfl
theorem zmk_86 (h : yy_A (zG D f n) (n + 4 + 2 + 3 * 15) (yy_tab (zG D f n) (n + 4 + 2 + 3 * 15)) H) : va_at D vwCl (n + zpos 86, zz_F (zG D f n) 86 (zM0 86)) H := zat (G := zG D f n) (h 1 _ rfl) (by have h9 : zpos 86 = 52 := rfl; omega) rfl
theorem zmk_87 (h : yy_A (zG D f n) (n + 4 + 2 + 3 * 15) (yy_tab (zG D f n) (n + 4 + 2 + 3 * 15)) H) : va_at D vwCl (n + zpos 87, zz_F (zG D f n) 87 (zM0 87)) H := zat (G := zG D f n) (h 2 _ rfl) (by have h9 : zpos 87 = 53 := rfl; omega) rfl
theorem zmk_88 (h : yy_A (zG D f n) (n + 4 + 2 + 3 * 16) (yy_tab (zG D f n) (n + 4 + 2 + 3 * 16)) H) : va_at D vwCl (n + zpos 88, zz_F (zG D f n) 88 (zM0 88)) H := zat (G := zG D f n) (h 0 _ rfl) (by have h9 : zpos 88 = 54 := rfl; omega) rfl
theorem zmk_89 (h : yy_A (zG D f n) (n + 4 + 2 + 3 * 16) (yy_tab (zG D f n) (n + 4 + 2 + 3 * 16)) H) : va_at D vwCl (n + zpos 89, zz_F (zG D f n) 89 (zM0 89)) H := zat (G := zG D f n) (h 1 _ rfl) (by have h9 : zpos 89 = 55 := rfl; omega) rfl
theorem zmk_90 (h : yy_A (zG D f n) (n + 4 + 2 + 3 * 16) (yy_tab (zG D f n) (n + 4 + 2 + 3 * 16)) H) : va_at D vwCl (n + zpos 90, zz_F (zG D f n) 90 (zM0 90)) H := zat (G := zG D f n) (h 2 _ rfl) (by have h9 : zpos 90 = 56 := rfl; omega) rfl
theorem zmk_91 (h : yy_A (zG D f n) (n + 4 + 2 + 3 * 17) (yy_tab (zG D f n) (n + 4 + 2 + 3 * 17)) H) : va_at D vwCl (n + zpos 91, zz_F (zG D f n) 91 (zM0 91)) H := zat (G := zG D f n) (h 0 _ rfl) (by have h9 : zpos 91 = 57 := rfl; omega) rfl
theorem zmk_92 (h : yy_A (zG D f n) (n + 4 + 2 + 3 * 17) (yy_tab (zG D f n) (n + 4 + 2 + 3 * 17)) H) : va_at D vwCl (n + zpos 92, zz_F (zG D f n) 92 (zM0 92)) H := zat (G := zG D f n) (h 1 _ rfl) (by have h9 : zpos 92 = 58 := rfl; omega) rfl
theorem zmk_93 (h : yy_A (zG D f n) (n + 4 + 2 + 3 * 17) (yy_tab (zG D f n) (n + 4 + 2 + 3 * 17)) H) : va_at D vwCl (n + zpos 93, zz_F (zG D f n) 93 (zM0 93)) H := zat (G := zG D f n) (h 2 _ rfl) (by have h9 : zpos 93 = 59 := rfl; omega) rfl
theorem zmk_94 (h : yy_A (zG D f n) (n + 4 + 2 + 3 * 18) (yy_tab (zG D f n) (n + 4 + 2 + 3 * 18)) H) : va_at D vwCl (n + zpos 94, zz_F (zG D f n) 94 (zM0 94)) H := zat (G := zG D f n) (h 0 _ rfl) (by have h9 : zpos 94 = 60 := rfl; omega) rfl
theorem zmk_95 (h : yy_A (zG D f n) (n + 4 + 2 + 3 * 18) (yy_tab (zG D f n) (n + 4 + 2 + 3 * 18)) H) : va_at D vwCl (n + zpos 95, zz_F (zG D f n) 95 (zM0 95)) H := zat (G := zG D f n) (h 1 _ rfl) (by have h9 : zpos 95 = 61 := rfl; omega) rfl
theorem zmk_96 (h : yy_A (zG D f n) (n + 4 + 2 + 3 * 18) (yy_tab (zG D f n) (n + 4 + 2 + 3 * 18)) H) : va_at D vwCl (n + zpos 96, zz_F (zG D f n) 96 (zM0 96)) H := zat (G := zG D f n) (h 2 _ rfl) (by have h9 : zpos 96 = 62 := rfl; omega) rfl
theorem zmk_97 (h : yy_A (zG D f n) (n + 4 + 2 + 3 * 19) (yy_tab (zG D f n) (n + 4 + 2 + 3 * 19)) H) : va_at D vwCl (n + zpos 97, zz_F (zG D f n) 97 (zM0 97)) H := zat (G := zG D f n) (h 0 _ rfl) (by have h9 : zpos 97 = 63 := rfl; omega) rfl
theorem zmk_98 (h : yy_A (zG D f n) (n + 4 + 2 + 3 * 19) (yy_tab (zG D f n) (n + 4 + 2 + 3 * 19)) H) : va_at D vwCl (n + zpos 98, zz_F (zG D f n) 98 (zM0 98)) H := zat (G := zG D f n) (h 1 _ rfl) (by have h9 : zpos 98 = 64 := rfl; omega) rfl
theorem zmk_99 (h : yy_A (zG D f n) (n + 4 + 2 + 3 * 19) (yy_tab (zG D f n) (n + 4 + 2 + 3 * 19)) H) : va_at D vwCl (n + zpos 99, zz_F (zG D f n) 99 (zM0 99)) H := zat (G := zG D f n) (h 2 _ rfl) (by have h9 : zpos 99 = 65 := rfl; omega) rfl
theorem zmk_100 (h : yy_A (zG D f n) (n + 100) (yy_mod (zG D f n) (n + 100)) H) : va_at D vwCl (n + zpos 100, zz_F (zG D f n) 100 (zM0 100)) H := zat (G := zG D f n) (h 0 _ rfl) (by have h9 : zpos 100 = 100 := rfl; omega) rfl
theorem zmk_101 (h : yy_A (zG D f n) (n + 100) (yy_mod (zG D f n) (n + 100)) H) : va_at D vwCl (n + zpos 101, zz_F (zG D f n) 101 (zM0 101)) H := zat (G := zG D f n) (h 1 _ rfl) (by have h9 : zpos 101 = 101 := rfl; omega) rfl
theorem zmk_102 (h : yy_A (zG D f n) (n + 100) (yy_mod (zG D f n) (n + 100)) H) : va_at D vwCl (n + zpos 102, zz_F (zG D f n) 102 (zM0 102)) H := zat (G := zG D f n) (h 2 _ rfl) (by have h9 : zpos 102 = 102 := rfl; omega) rfl
theorem zmk_103 (h : yy_A (zG D f n) (n + 100) (yy_mod (zG D f n) (n + 100)) H) : va_at D vwCl (n + zpos 103, zz_F (zG D f n) 103 (zM0 103)) H := zat (G := zG D f n) (h 3 _ rfl) (by have h9 : zpos 103 = 103 := rfl; omega) rfl
theorem zmk_104 (h : yy_A (zG D f n) (n + 100) (yy_mod (zG D f n) (n + 100)) H) : va_at D vwCl (n + zpos 104, zz_F (zG D f n) 104 (zM0 104)) H := zat (G := zG D f n) (h 4 _ rfl) (by have h9 : zpos 104 = 104 := rfl; omega) rfl
theorem zmk_105 (h : yy_A (zG D f n) (n + 100) (yy_mod (zG D f n) (n + 100)) H) : va_at D vwCl (n + zpos 105, zz_F (zG D f n) 105 (zM0 105)) H := zat (G := zG D f n) (h 5 _ rfl) (by have h9 : zpos 105 = 105 := rfl; omega) rfl
theorem zmk_106 (h : yy_A (zG D f n) (n + 100) (yy_mod (zG D f n) (n + 100)) H) : va_at D vwCl (n + zpos 106, zz_F (zG D f n) 106 (zM0 106)) H := zat (G := zG D f n) (h 6 _ rfl) (by have h9 : zpos 106 = 106 := rfl; omega) rfl
theorem zmk_107 (h : yy_A (zG D f n) (n + 100) (yy_mod (zG D f n) (n + 100)) H) : va_at D vwCl (n + zpos 107, zz_F (zG D f n) 107 (zM0 107)) H := zat (G := zG D f n) (h 7 _ rfl) (by have h9 : zpos 107 = 107 := rfl; omega) rfl
theorem zmk_108 (h : yy_A (zG D f n) (n + 100) (yy_mod (zG D f n) (n + 100)) H) : va_at D vwCl (n + zpos 108, zz_F (zG D f n) 108 (zM0 108)) H := zat (G := zG D f n) (h 8 _ rfl) (by have h9 : zpos 108 = 108 := rfl; omega) rfl
theorem zmk_109 (h : yy_A (zG D f n) (n + 100) (yy_mod (zG D f n) (n + 100)) H) : va_at D vwCl (n + zpos 109, zz_F (zG D f n) 109 (zM0 109)) H := zat (G := zG D f n) (h 9 _ rfl) (by have h9 : zpos 109 = 109 := rfl; omega) rfl
theorem zmk_110 (h : yy_A (zG D f n) (n + 100) (yy_mod (zG D f n) (n + 100)) H) : va_at D vwCl (n + zpos 110, zz_F (zG D f n) 110 (zM0 110)) H := zat (G := zG D f n) (h 10 _ rfl) (by have h9 : zpos 110 = 110 := rfl; omega) rfl
theorem zmk (hP : yy_P (zG D f n) n (zLL D f n) H) : ∀ k, k < 111 → va_at D vwCl (n + zpos k, zz_F (zG D f n) k (zM0 k)) H := by
  have h0 : yy_A (zG D f n) n (zLL D f n) H := hP.2
  have hown : yy_A (zG D f n) n (yy_own (zG D f n) n) H := h0.l
  have hmod : yy_A (zG D f n) (n + 100) (yy_mod (zG D f n) (n + 100)) H := h0.r (by unfold yy_own; simp only [List.length_cons, List.length_append, List.length_nil, yl_tab, yl_past, yl_read, yl_norm, yl_cnt, yl_forms, yl_row])
  have h1 := yy_A.t (x := .inr (7, [.ref (n + 1), .ref (n + 4), .ref (n + 66), .ref (n + 71), .ref (n + 73), .ref (n + 82), .ref (n + 96), .ref (n + 98)])) (A := (((((((yy_tab (zG D f n) (n + 1) ++ yy_past (zG D f n) (n + 4)) ++ yy_read (zG D f n) (n + 66)) ++ yy_norm (zG D f n) (n + 71)) ++ yy_cnt (zG D f n) (n + 73)) ++ yy_forms (zG D f n) (n + 82)) ++ yy_row (zG D f n) (n + 96) 2187) ++ yy_row (zG D f n) (n + 98) 2187)) hown
  have hlen : True := trivial
  have htwo := h1.r (b' := n + 98) (by simp only [List.length_append, yl_tab, yl_past, yl_read, yl_norm, yl_cnt, yl_forms, yl_row])
  have h2 := h1.l
  have hone := h2.r (b' := n + 96) (by simp only [List.length_append, yl_tab, yl_past, yl_read, yl_norm, yl_cnt, yl_forms, yl_row])
  have h3 := h2.l
  have hforms := h3.r (b' := n + 82) (by simp only [List.length_append, yl_tab, yl_past, yl_read, yl_norm, yl_cnt, yl_forms, yl_row])
  have h4 := h3.l
  have hcnt := h4.r (b' := n + 73) (by simp only [List.length_append, yl_tab, yl_past, yl_read, yl_norm, yl_cnt, yl_forms, yl_row])
  have h5 := h4.l
  have hnorm := h5.r (b' := n + 71) (by simp only [List.length_append, yl_tab, yl_past, yl_read, yl_norm, yl_cnt, yl_forms, yl_row])
  have h6 := h5.l
  have hread := h6.r (b' := n + 66) (by simp only [List.length_append, yl_tab, yl_past, yl_read, yl_norm, yl_cnt, yl_forms, yl_row])
  have h7 := h6.l
  have hpast := h7.r (b' := n + 4) (by simp only [List.length_append, yl_tab, yl_past, yl_read, yl_norm, yl_cnt, yl_forms, yl_row])
  have htab := h7.l
  have htabs := yy_A.tabs (yy_A.t (yy_A.t (A := yy_rq ((zG D f n).2.1 2) 20 (yy_u 20 (fun q => n + 4 + 2 + 3 * q)) :: yy_tabs (zG D f n) (n + 4 + 2) 20) hpast))
  have hrows := yy_A.rows (yy_A.t (yy_A.t (A := yy_rq ((zG D f n).2.1 1) 6 (yy_u 6 (fun q => n + 82 + 2 + 2 * q)) :: yy_rows (zG D f n) (n + 82 + 2) 6) hforms))
  intro j hj
  by_cases c55 : j < 55
  · skip
    by_cases c27 : j < 27
    · skip
      by_cases c13 : j < 13
      · skip
        by_cases c6 : j < 6
        · skip
          by_cases c3 : j < 3
          · skip
            by_cases c1 : j < 1
            · skip
              obtain rfl : j = 0 := by omega
              exact zmk_0 hown
            · skip
              by_cases c2 : j < 2
              · skip
                obtain rfl : j = 1 := by omega
                exact zmk_1 htab
              · skip
                obtain rfl : j = 2 := by omega
                exact zmk_2 htab
          · skip
            by_cases c4 : j < 4
            · skip
              obtain rfl : j = 3 := by omega
              exact zmk_3 htab
            · skip
              by_cases c5 : j < 5
              · skip
                obtain rfl : j = 4 := by omega
                exact zmk_4 hpast
              · skip
                obtain rfl : j = 5 := by omega
                exact zmk_5 hpast
        · skip
          by_cases c9 : j < 9
          · skip
            by_cases c7 : j < 7
            · skip
              obtain rfl : j = 6 := by omega
              exact zmk_6 hread
            · skip
              by_cases c8 : j < 8
              · skip
                obtain rfl : j = 7 := by omega
                exact zmk_7 hread
              · skip
                obtain rfl : j = 8 := by omega
                exact zmk_8 hread
          · skip
            by_cases c11 : j < 11
            · skip
              by_cases c10 : j < 10
              · skip
                obtain rfl : j = 9 := by omega
                exact zmk_9 hread
              · skip
                obtain rfl : j = 10 := by omega
                exact zmk_10 hread
            · skip
              by_cases c12 : j < 12
              · skip
                obtain rfl : j = 11 := by omega
                exact zmk_11 hnorm
              · skip
                obtain rfl : j = 12 := by omega
                exact zmk_12 hnorm
      · skip
        by_cases c20 : j < 20
        · skip
          by_cases c16 : j < 16
          · skip
            by_cases c14 : j < 14
            · skip
              obtain rfl : j = 13 := by omega
              exact zmk_13 hcnt
            · skip
              by_cases c15 : j < 15
              · skip
                obtain rfl : j = 14 := by omega
                exact zmk_14 hcnt
              · skip
                obtain rfl : j = 15 := by omega
                exact zmk_15 hcnt
          · skip
            by_cases c18 : j < 18
            · skip
              by_cases c17 : j < 17
              · skip
                obtain rfl : j = 16 := by omega
                exact zmk_16 hcnt
              · skip
                obtain rfl : j = 17 := by omega
                exact zmk_17 hcnt
            · skip
              by_cases c19 : j < 19
              · skip
                obtain rfl : j = 18 := by omega
                exact zmk_18 hcnt
              · skip
                obtain rfl : j = 19 := by omega
                exact zmk_19 hcnt
        · skip
          by_cases c23 : j < 23
          · skip
            by_cases c21 : j < 21
            · skip
              obtain rfl : j = 20 := by omega
              exact zmk_20 hcnt
            · skip
              by_cases c22 : j < 22
              · skip
                obtain rfl : j = 21 := by omega
                exact zmk_21 hcnt
              · skip
                obtain rfl : j = 22 := by omega
                exact zmk_22 hforms
          · skip
            by_cases c25 : j < 25
            · skip
              by_cases c24 : j < 24
              · skip
                obtain rfl : j = 23 := by omega
                exact zmk_23 hforms
              · skip
                obtain rfl : j = 24 := by omega
                exact zmk_24 (hrows 0 (by decide))
            · skip
              by_cases c26 : j < 26
              · skip
                obtain rfl : j = 25 := by omega
                exact zmk_25 (hrows 0 (by decide))
              · skip
                obtain rfl : j = 26 := by omega
                exact zmk_26 (hrows 1 (by decide))
    · skip
      by_cases c41 : j < 41
      · skip
        by_cases c34 : j < 34
        · skip
          by_cases c30 : j < 30
          · skip
            by_cases c28 : j < 28
            · skip
              obtain rfl : j = 27 := by omega
              exact zmk_27 (hrows 1 (by decide))
            · skip
              by_cases c29 : j < 29
              · skip
                obtain rfl : j = 28 := by omega
                exact zmk_28 (hrows 2 (by decide))
              · skip
                obtain rfl : j = 29 := by omega
                exact zmk_29 (hrows 2 (by decide))
          · skip
            by_cases c32 : j < 32
            · skip
              by_cases c31 : j < 31
              · skip
                obtain rfl : j = 30 := by omega
                exact zmk_30 (hrows 3 (by decide))
              · skip
                obtain rfl : j = 31 := by omega
                exact zmk_31 (hrows 3 (by decide))
            · skip
              by_cases c33 : j < 33
              · skip
                obtain rfl : j = 32 := by omega
                exact zmk_32 (hrows 4 (by decide))
              · skip
                obtain rfl : j = 33 := by omega
                exact zmk_33 (hrows 4 (by decide))
        · skip
          by_cases c37 : j < 37
          · skip
            by_cases c35 : j < 35
            · skip
              obtain rfl : j = 34 := by omega
              exact zmk_34 (hrows 5 (by decide))
            · skip
              by_cases c36 : j < 36
              · skip
                obtain rfl : j = 35 := by omega
                exact zmk_35 (hrows 5 (by decide))
              · skip
                obtain rfl : j = 36 := by omega
                exact zmk_36 hone
          · skip
            by_cases c39 : j < 39
            · skip
              by_cases c38 : j < 38
              · skip
                obtain rfl : j = 37 := by omega
                exact zmk_37 hone
              · skip
                obtain rfl : j = 38 := by omega
                exact zmk_38 htwo
            · skip
              by_cases c40 : j < 40
              · skip
                obtain rfl : j = 39 := by omega
                exact zmk_39 htwo
              · skip
                obtain rfl : j = 40 := by omega
                exact zmk_40 (htabs 0 (by decide))
      · skip
        by_cases c48 : j < 48
        · skip
          by_cases c44 : j < 44
          · skip
            by_cases c42 : j < 42
            · skip
              obtain rfl : j = 41 := by omega
              exact zmk_41 (htabs 0 (by decide))
            · skip
              by_cases c43 : j < 43
              · skip
                obtain rfl : j = 42 := by omega
                exact zmk_42 (htabs 0 (by decide))
              · skip
                obtain rfl : j = 43 := by omega
                exact zmk_43 (htabs 1 (by decide))
          · skip
            by_cases c46 : j < 46
            · skip
              by_cases c45 : j < 45
              · skip
                obtain rfl : j = 44 := by omega
                exact zmk_44 (htabs 1 (by decide))
              · skip
                obtain rfl : j = 45 := by omega
                exact zmk_45 (htabs 1 (by decide))
            · skip
              by_cases c47 : j < 47
              · skip
                obtain rfl : j = 46 := by omega
                exact zmk_46 (htabs 2 (by decide))
              · skip
                obtain rfl : j = 47 := by omega
                exact zmk_47 (htabs 2 (by decide))
        · skip
          by_cases c51 : j < 51
          · skip
            by_cases c49 : j < 49
            · skip
              obtain rfl : j = 48 := by omega
              exact zmk_48 (htabs 2 (by decide))
            · skip
              by_cases c50 : j < 50
              · skip
                obtain rfl : j = 49 := by omega
                exact zmk_49 (htabs 3 (by decide))
              · skip
                obtain rfl : j = 50 := by omega
                exact zmk_50 (htabs 3 (by decide))
          · skip
            by_cases c53 : j < 53
            · skip
              by_cases c52 : j < 52
              · skip
                obtain rfl : j = 51 := by omega
                exact zmk_51 (htabs 3 (by decide))
              · skip
                obtain rfl : j = 52 := by omega
                exact zmk_52 (htabs 4 (by decide))
            · skip
              by_cases c54 : j < 54
              · skip
                obtain rfl : j = 53 := by omega
                exact zmk_53 (htabs 4 (by decide))
              · skip
                obtain rfl : j = 54 := by omega
                exact zmk_54 (htabs 4 (by decide))
  · skip
    by_cases c83 : j < 83
    · skip
      by_cases c69 : j < 69
      · skip
        by_cases c62 : j < 62
        · skip
          by_cases c58 : j < 58
          · skip
            by_cases c56 : j < 56
            · skip
              obtain rfl : j = 55 := by omega
              exact zmk_55 (htabs 5 (by decide))
            · skip
              by_cases c57 : j < 57
              · skip
                obtain rfl : j = 56 := by omega
                exact zmk_56 (htabs 5 (by decide))
              · skip
                obtain rfl : j = 57 := by omega
                exact zmk_57 (htabs 5 (by decide))
          · skip
            by_cases c60 : j < 60
            · skip
              by_cases c59 : j < 59
              · skip
                obtain rfl : j = 58 := by omega
                exact zmk_58 (htabs 6 (by decide))
              · skip
                obtain rfl : j = 59 := by omega
                exact zmk_59 (htabs 6 (by decide))
            · skip
              by_cases c61 : j < 61
              · skip
                obtain rfl : j = 60 := by omega
                exact zmk_60 (htabs 6 (by decide))
              · skip
                obtain rfl : j = 61 := by omega
                exact zmk_61 (htabs 7 (by decide))
        · skip
          by_cases c65 : j < 65
          · skip
            by_cases c63 : j < 63
            · skip
              obtain rfl : j = 62 := by omega
              exact zmk_62 (htabs 7 (by decide))
            · skip
              by_cases c64 : j < 64
              · skip
                obtain rfl : j = 63 := by omega
                exact zmk_63 (htabs 7 (by decide))
              · skip
                obtain rfl : j = 64 := by omega
                exact zmk_64 (htabs 8 (by decide))
          · skip
            by_cases c67 : j < 67
            · skip
              by_cases c66 : j < 66
              · skip
                obtain rfl : j = 65 := by omega
                exact zmk_65 (htabs 8 (by decide))
              · skip
                obtain rfl : j = 66 := by omega
                exact zmk_66 (htabs 8 (by decide))
            · skip
              by_cases c68 : j < 68
              · skip
                obtain rfl : j = 67 := by omega
                exact zmk_67 (htabs 9 (by decide))
              · skip
                obtain rfl : j = 68 := by omega
                exact zmk_68 (htabs 9 (by decide))
      · skip
        by_cases c76 : j < 76
        · skip
          by_cases c72 : j < 72
          · skip
            by_cases c70 : j < 70
            · skip
              obtain rfl : j = 69 := by omega
              exact zmk_69 (htabs 9 (by decide))
            · skip
              by_cases c71 : j < 71
              · skip
                obtain rfl : j = 70 := by omega
                exact zmk_70 (htabs 10 (by decide))
              · skip
                obtain rfl : j = 71 := by omega
                exact zmk_71 (htabs 10 (by decide))
          · skip
            by_cases c74 : j < 74
            · skip
              by_cases c73 : j < 73
              · skip
                obtain rfl : j = 72 := by omega
                exact zmk_72 (htabs 10 (by decide))
              · skip
                obtain rfl : j = 73 := by omega
                exact zmk_73 (htabs 11 (by decide))
            · skip
              by_cases c75 : j < 75
              · skip
                obtain rfl : j = 74 := by omega
                exact zmk_74 (htabs 11 (by decide))
              · skip
                obtain rfl : j = 75 := by omega
                exact zmk_75 (htabs 11 (by decide))
        · skip
          by_cases c79 : j < 79
          · skip
            by_cases c77 : j < 77
            · skip
              obtain rfl : j = 76 := by omega
              exact zmk_76 (htabs 12 (by decide))
            · skip
              by_cases c78 : j < 78
              · skip
                obtain rfl : j = 77 := by omega
                exact zmk_77 (htabs 12 (by decide))
              · skip
                obtain rfl : j = 78 := by omega
                exact zmk_78 (htabs 12 (by decide))
          · skip
            by_cases c81 : j < 81
            · skip
              by_cases c80 : j < 80
              · skip
                obtain rfl : j = 79 := by omega
                exact zmk_79 (htabs 13 (by decide))
              · skip
                obtain rfl : j = 80 := by omega
                exact zmk_80 (htabs 13 (by decide))
            · skip
              by_cases c82 : j < 82
              · skip
                obtain rfl : j = 81 := by omega
                exact zmk_81 (htabs 13 (by decide))
              · skip
                obtain rfl : j = 82 := by omega
                exact zmk_82 (htabs 14 (by decide))
    · skip
      by_cases c97 : j < 97
      · skip
        by_cases c90 : j < 90
        · skip
          by_cases c86 : j < 86
          · skip
            by_cases c84 : j < 84
            · skip
              obtain rfl : j = 83 := by omega
              exact zmk_83 (htabs 14 (by decide))
            · skip
              by_cases c85 : j < 85
              · skip
                obtain rfl : j = 84 := by omega
                exact zmk_84 (htabs 14 (by decide))
              · skip
                obtain rfl : j = 85 := by omega
                exact zmk_85 (htabs 15 (by decide))
          · skip
            by_cases c88 : j < 88
            · skip
              by_cases c87 : j < 87
              · skip
                obtain rfl : j = 86 := by omega
                exact zmk_86 (htabs 15 (by decide))
              · skip
                obtain rfl : j = 87 := by omega
                exact zmk_87 (htabs 15 (by decide))
            · skip
              by_cases c89 : j < 89
              · skip
                obtain rfl : j = 88 := by omega
                exact zmk_88 (htabs 16 (by decide))
              · skip
                obtain rfl : j = 89 := by omega
                exact zmk_89 (htabs 16 (by decide))
        · skip
          by_cases c93 : j < 93
          · skip
            by_cases c91 : j < 91
            · skip
              obtain rfl : j = 90 := by omega
              exact zmk_90 (htabs 16 (by decide))
            · skip
              by_cases c92 : j < 92
              · skip
                obtain rfl : j = 91 := by omega
                exact zmk_91 (htabs 17 (by decide))
              · skip
                obtain rfl : j = 92 := by omega
                exact zmk_92 (htabs 17 (by decide))
          · skip
            by_cases c95 : j < 95
            · skip
              by_cases c94 : j < 94
              · skip
                obtain rfl : j = 93 := by omega
                exact zmk_93 (htabs 17 (by decide))
              · skip
                obtain rfl : j = 94 := by omega
                exact zmk_94 (htabs 18 (by decide))
            · skip
              by_cases c96 : j < 96
              · skip
                obtain rfl : j = 95 := by omega
                exact zmk_95 (htabs 18 (by decide))
              · skip
                obtain rfl : j = 96 := by omega
                exact zmk_96 (htabs 18 (by decide))
      · skip
        by_cases c104 : j < 104
        · skip
          by_cases c100 : j < 100
          · skip
            by_cases c98 : j < 98
            · skip
              obtain rfl : j = 97 := by omega
              exact zmk_97 (htabs 19 (by decide))
            · skip
              by_cases c99 : j < 99
              · skip
                obtain rfl : j = 98 := by omega
                exact zmk_98 (htabs 19 (by decide))
              · skip
                obtain rfl : j = 99 := by omega
                exact zmk_99 (htabs 19 (by decide))
          · skip
            by_cases c102 : j < 102
            · skip
              by_cases c101 : j < 101
              · skip
                obtain rfl : j = 100 := by omega
                exact zmk_100 hmod
              · skip
                obtain rfl : j = 101 := by omega
                exact zmk_101 hmod
            · skip
              by_cases c103 : j < 103
              · skip
                obtain rfl : j = 102 := by omega
                exact zmk_102 hmod
              · skip
                obtain rfl : j = 103 := by omega
                exact zmk_103 hmod
        · skip
          by_cases c107 : j < 107
          · skip
            by_cases c105 : j < 105
            · skip
              obtain rfl : j = 104 := by omega
              exact zmk_104 hmod
            · skip
              by_cases c106 : j < 106
              · skip
                obtain rfl : j = 105 := by omega
                exact zmk_105 hmod
              · skip
                obtain rfl : j = 106 := by omega
                exact zmk_106 hmod
          · skip
            by_cases c109 : j < 109
            · skip
              by_cases c108 : j < 108
              · skip
                obtain rfl : j = 107 := by omega
                exact zmk_107 hmod
              · skip
                obtain rfl : j = 108 := by omega
                exact zmk_108 hmod
            · skip
              by_cases c110 : j < 110
              · skip
                obtain rfl : j = 109 := by omega
                exact zmk_109 hmod
              · skip
                obtain rfl : j = 110 := by omega
                exact zmk_110 hmod
theorem zm_P (hP : yy_P (zG D f n) n (zLL D f n) H) : va_P D vwCl (zz_W (zG D f n) zM0) H := by
  intro k q hq
  obtain ⟨h1, rfl⟩ := zz_W_of hq
  exact zmk hP k h1
end ZW
