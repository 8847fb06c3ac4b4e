/-! THE LAW'S WORLD: the region that the two constructors leave, read as the world of 111 cells -/
def zpos (k : Nat) : Nat := bif Nat.blt k 6 then k else bif Nat.beq k 15 then 81 else bif Nat.ble 16 k && Nat.blt k 22 then k + 59 else bif Nat.blt k 40 then k + 60 else bif Nat.blt k 100 then k - 34 else k
def zG (D : va_G) (f : Nat → ClassId) (n : Nat) : zz_C := (D, f, fun k => n + zpos k)
theorem zpos_inj : ∀ i, i < 111 → ∀ j, j < 111 → zpos i = zpos j → i = j := by decide +kernel
theorem zpos_lt : ∀ i, i < 111 → zpos i < 111 := by decide +kernel
theorem zpos_t : ∀ i, i < 20 → zpos (40 + 3 * i) = 6 + 3 * i := by decide +kernel
theorem zpos_c : ∀ i, i < 6 → zpos (16 + i) = 75 + i := by decide +kernel
theorem zpos_r : ∀ i, i < 6 → zpos (24 + 2 * i) = 84 + 2 * i := by decide +kernel
theorem zG_J (D : va_G) (f : Nat → ClassId) (n : Nat) : zz_J (zG D f n) := fun i j hi hj h => zpos_inj i hi j hj (by have h9 : n + zpos i = n + zpos j := h; omega)
def zM0 : zz_M := fun k => bif Nat.beq k 2 then yy_f 18 (-9) yy_o else bif Nat.beq k 3 then yy_f 6 (-9) yy_o else bif Nat.beq k 101 then yy_f 24 (-9) yy_o else bif Nat.ble 40 k && Nat.blt k 100 then (bif Nat.beq (k % 3) 2 then yy_f 18 (-9) yy_o else bif Nat.beq (k % 3) 0 then yy_f 6 (-9) yy_o else yy_o) else yy_o
theorem zvV : zV (fun _ => none) := ⟨fun _ _ _ h => (by cases h), fun _ _ _ h => (by cases h)⟩
theorem zI0 : zI zM0 (fun _ => none) [] := ⟨zvV, fun _ h => (by cases h), ⟨fun i hi => if_pos hi, fun i hi => if_pos hi⟩, 0, rfl, by decide, rfl, by decide, fun _ _ h => by cases h⟩
theorem zJ0 : zJ zM0 (fun _ => none) [] := ⟨zvV, fun _ h => (by cases h), fun i hi => if_pos hi, rfl, by decide, fun _ _ h => by cases h⟩
theorem zI_hi {M M1 : zz_M} {S : Nat → Option Nat} {hs : List (Nat → Option Nat)} (h : zI M S hs) (hh : zhi M M1) : zI M1 S hs := by
  obtain ⟨h1, h2, h3, nx, a1, a2, a3, a4, a5⟩ := h
  refine ⟨h1, h2, ztab_congr h3 (hh 2 (by decide)) (hh 3 (by decide)), nx, by rw [hh 4 (by decide)]; exact a1, a2, by rw [hh 4 (by decide)]; exact a3, a4, fun j T hj => ?_⟩
  have : (nx + 19 - j) % 20 < 20 := Nat.mod_lt _ (by decide)
  exact ztab_congr (a5 j T hj) (hh _ (by omega)) (hh _ (by omega))
theorem zJ_lo {M M1 : zz_M} {S : Nat → Option Nat} {hs : List (Nat → Option Nat)} (h : zJ M S hs) (hl : zlo M M1) : zJ M1 S hs := ⟨h.1, h.2.1, fun i hi => by rw [hl 101 (by decide)]; exact h.2.2.1 i hi, by rw [hl 100 (by decide)]; exact h.2.2.2.1, h.2.2.2.2.1, fun j T hj i hi => by rw [hl 102 (by decide)]; exact h.2.2.2.2.2 j T hj i hi⟩
theorem arrV_ext {c : ClassId} {n : Nat} {f g : Nat → Value} (h : ∀ i, i < n → f i = g i) : arrV c n f = arrV c n g := by
  unfold arrV
  congr 2
  funext i
  exact h i.val i.isLt
section ZW
variable (D : va_G) (f : Nat → ClassId) (n : Nat)
abbrev zLL : List va_E := yy_own (zG D f n) n ++ yy_mod (zG D f n) (n + 100)
theorem zLL_len : (zLL D f n).length = 111 := by
  unfold zLL yy_own
  simp only [List.length_cons, List.length_append, List.length_nil, yl_tab, yl_past, yl_read, yl_norm, yl_cnt, yl_forms, yl_row]
  rfl
theorem zmk_0 : (zLL D f n)[zpos 0]? = some (zz_F (zG D f n) 0 (zM0 0)) := rfl
theorem zmk_1 : (zLL D f n)[zpos 1]? = some (zz_F (zG D f n) 1 (zM0 1)) := rfl
theorem zmk_2 : (zLL D f n)[zpos 2]? = some (zz_F (zG D f n) 2 (zM0 2)) := rfl
theorem zmk_3 : (zLL D f n)[zpos 3]? = some (zz_F (zG D f n) 3 (zM0 3)) := rfl
theorem zmk_4 : (zLL D f n)[zpos 4]? = some (zz_F (zG D f n) 4 (zM0 4)) := rfl
theorem zmk_6 : (zLL D f n)[zpos 6]? = some (zz_F (zG D f n) 6 (zM0 6)) := rfl
theorem zmk_7 : (zLL D f n)[zpos 7]? = some (zz_F (zG D f n) 7 (zM0 7)) := rfl
theorem zmk_8 : (zLL D f n)[zpos 8]? = some (zz_F (zG D f n) 8 (zM0 8)) := rfl
theorem zmk_9 : (zLL D f n)[zpos 9]? = some (zz_F (zG D f n) 9 (zM0 9)) := rfl
theorem zmk_10 : (zLL D f n)[zpos 10]? = some (zz_F (zG D f n) 10 (zM0 10)) := rfl
theorem zmk_11 : (zLL D f n)[zpos 11]? = some (zz_F (zG D f n) 11 (zM0 11)) := rfl
theorem zmk_12 : (zLL D f n)[zpos 12]? = some (zz_F (zG D f n) 12 (zM0 12)) := rfl
theorem zmk_13 : (zLL D f n)[zpos 13]? = some (zz_F (zG D f n) 13 (zM0 13)) := rfl
theorem zmk_15 : (zLL D f n)[zpos 15]? = some (zz_F (zG D f n) 15 (zM0 15)) := rfl
theorem zmk_16 : (zLL D f n)[zpos 16]? = some (zz_F (zG D f n) 16 (zM0 16)) := rfl
theorem zmk_17 : (zLL D f n)[zpos 17]? = some (zz_F (zG D f n) 17 (zM0 17)) := rfl
theorem zmk_18 : (zLL D f n)[zpos 18]? = some (zz_F (zG D f n) 18 (zM0 18)) := rfl
theorem zmk_19 : (zLL D f n)[zpos 19]? = some (zz_F (zG D f n) 19 (zM0 19)) := rfl
theorem zmk_20 : (zLL D f n)[zpos 20]? = some (zz_F (zG D f n) 20 (zM0 20)) := rfl
theorem zmk_21 : (zLL D f n)[zpos 21]? = some (zz_F (zG D f n) 21 (zM0 21)) := rfl
theorem zmk_22 : (zLL D f n)[zpos 22]? = some (zz_F (zG D f n) 22 (zM0 22)) := rfl
theorem zmk_24 : (zLL D f n)[zpos 24]? = some (zz_F (zG D f n) 24 (zM0 24)) := rfl
theorem zmk_25 : (zLL D f n)[zpos 25]? = some (zz_F (zG D f n) 25 (zM0 25)) := rfl
theorem zmk_26 : (zLL D f n)[zpos 26]? = some (zz_F (zG D f n) 26 (zM0 26)) := rfl
theorem zmk_27 : (zLL D f n)[zpos 27]? = some (zz_F (zG D f n) 27 (zM0 27)) := rfl
theorem zmk_28 : (zLL D f n)[zpos 28]? = some (zz_F (zG D f n) 28 (zM0 28)) := rfl
theorem zmk_29 : (zLL D f n)[zpos 29]? = some (zz_F (zG D f n) 29 (zM0 29)) := rfl
theorem zmk_30 : (zLL D f n)[zpos 30]? = some (zz_F (zG D f n) 30 (zM0 30)) := rfl
theorem zmk_31 : (zLL D f n)[zpos 31]? = some (zz_F (zG D f n) 31 (zM0 31)) := rfl
theorem zmk_32 : (zLL D f n)[zpos 32]? = some (zz_F (zG D f n) 32 (zM0 32)) := rfl
theorem zmk_33 : (zLL D f n)[zpos 33]? = some (zz_F (zG D f n) 33 (zM0 33)) := rfl
theorem zmk_34 : (zLL D f n)[zpos 34]? = some (zz_F (zG D f n) 34 (zM0 34)) := rfl
theorem zmk_35 : (zLL D f n)[zpos 35]? = some (zz_F (zG D f n) 35 (zM0 35)) := rfl
theorem zmk_36 : (zLL D f n)[zpos 36]? = some (zz_F (zG D f n) 36 (zM0 36)) := rfl
theorem zmk_37 : (zLL D f n)[zpos 37]? = some (zz_F (zG D f n) 37 (zM0 37)) := rfl
theorem zmk_38 : (zLL D f n)[zpos 38]? = some (zz_F (zG D f n) 38 (zM0 38)) := rfl
theorem zmk_39 : (zLL D f n)[zpos 39]? = some (zz_F (zG D f n) 39 (zM0 39)) := rfl
theorem zmk_40 : (zLL D f n)[zpos 40]? = some (zz_F (zG D f n) 40 (zM0 40)) := rfl
theorem zmk_41 : (zLL D f n)[zpos 41]? = some (zz_F (zG D f n) 41 (zM0 41)) := rfl
theorem zmk_42 : (zLL D f n)[zpos 42]? = some (zz_F (zG D f n) 42 (zM0 42)) := rfl
theorem zmk_43 : (zLL D f n)[zpos 43]? = some (zz_F (zG D f n) 43 (zM0 43)) := rfl
theorem zmk_44 : (zLL D f n)[zpos 44]? = some (zz_F (zG D f n) 44 (zM0 44)) := rfl
theorem zmk_45 : (zLL D f n)[zpos 45]? = some (zz_F (zG D f n) 45 (zM0 45)) := rfl
theorem zmk_46 : (zLL D f n)[zpos 46]? = some (zz_F (zG D f n) 46 (zM0 46)) := rfl
theorem zmk_47 : (zLL D f n)[zpos 47]? = some (zz_F (zG D f n) 47 (zM0 47)) := rfl
theorem zmk_48 : (zLL D f n)[zpos 48]? = some (zz_F (zG D f n) 48 (zM0 48)) := rfl
theorem zmk_49 : (zLL D f n)[zpos 49]? = some (zz_F (zG D f n) 49 (zM0 49)) := rfl
theorem zmk_50 : (zLL D f n)[zpos 50]? = some (zz_F (zG D f n) 50 (zM0 50)) := rfl
theorem zmk_51 : (zLL D f n)[zpos 51]? = some (zz_F (zG D f n) 51 (zM0 51)) := rfl
theorem zmk_52 : (zLL D f n)[zpos 52]? = some (zz_F (zG D f n) 52 (zM0 52)) := rfl
theorem zmk_53 : (zLL D f n)[zpos 53]? = some (zz_F (zG D f n) 53 (zM0 53)) := rfl
theorem zmk_54 : (zLL D f n)[zpos 54]? = some (zz_F (zG D f n) 54 (zM0 54)) := rfl
theorem zmk_55 : (zLL D f n)[zpos 55]? = some (zz_F (zG D f n) 55 (zM0 55)) := rfl
theorem zmk_56 : (zLL D f n)[zpos 56]? = some (zz_F (zG D f n) 56 (zM0 56)) := rfl
theorem zmk_57 : (zLL D f n)[zpos 57]? = some (zz_F (zG D f n) 57 (zM0 57)) := rfl
theorem zmk_58 : (zLL D f n)[zpos 58]? = some (zz_F (zG D f n) 58 (zM0 58)) := rfl
theorem zmk_59 : (zLL D f n)[zpos 59]? = some (zz_F (zG D f n) 59 (zM0 59)) := rfl
theorem zmk_60 : (zLL D f n)[zpos 60]? = some (zz_F (zG D f n) 60 (zM0 60)) := rfl
theorem zmk_61 : (zLL D f n)[zpos 61]? = some (zz_F (zG D f n) 61 (zM0 61)) := rfl
theorem zmk_62 : (zLL D f n)[zpos 62]? = some (zz_F (zG D f n) 62 (zM0 62)) := rfl
theorem zmk_63 : (zLL D f n)[zpos 63]? = some (zz_F (zG D f n) 63 (zM0 63)) := rfl
theorem zmk_64 : (zLL D f n)[zpos 64]? = some (zz_F (zG D f n) 64 (zM0 64)) := rfl
theorem zmk_65 : (zLL D f n)[zpos 65]? = some (zz_F (zG D f n) 65 (zM0 65)) := rfl
theorem zmk_66 : (zLL D f n)[zpos 66]? = some (zz_F (zG D f n) 66 (zM0 66)) := rfl
theorem zmk_67 : (zLL D f n)[zpos 67]? = some (zz_F (zG D f n) 67 (zM0 67)) := rfl
theorem zmk_68 : (zLL D f n)[zpos 68]? = some (zz_F (zG D f n) 68 (zM0 68)) := rfl
theorem zmk_69 : (zLL D f n)[zpos 69]? = some (zz_F (zG D f n) 69 (zM0 69)) := rfl
theorem zmk_70 : (zLL D f n)[zpos 70]? = some (zz_F (zG D f n) 70 (zM0 70)) := rfl
theorem zmk_71 : (zLL D f n)[zpos 71]? = some (zz_F (zG D f n) 71 (zM0 71)) := rfl
theorem zmk_72 : (zLL D f n)[zpos 72]? = some (zz_F (zG D f n) 72 (zM0 72)) := rfl
theorem zmk_73 : (zLL D f n)[zpos 73]? = some (zz_F (zG D f n) 73 (zM0 73)) := rfl
theorem zmk_74 : (zLL D f n)[zpos 74]? = some (zz_F (zG D f n) 74 (zM0 74)) := rfl
theorem zmk_75 : (zLL D f n)[zpos 75]? = some (zz_F (zG D f n) 75 (zM0 75)) := rfl
theorem zmk_76 : (zLL D f n)[zpos 76]? = some (zz_F (zG D f n) 76 (zM0 76)) := rfl
theorem zmk_77 : (zLL D f n)[zpos 77]? = some (zz_F (zG D f n) 77 (zM0 77)) := rfl
theorem zmk_78 : (zLL D f n)[zpos 78]? = some (zz_F (zG D f n) 78 (zM0 78)) := rfl
theorem zmk_79 : (zLL D f n)[zpos 79]? = some (zz_F (zG D f n) 79 (zM0 79)) := rfl
theorem zmk_80 : (zLL D f n)[zpos 80]? = some (zz_F (zG D f n) 80 (zM0 80)) := rfl
theorem zmk_81 : (zLL D f n)[zpos 81]? = some (zz_F (zG D f n) 81 (zM0 81)) := rfl
theorem zmk_82 : (zLL D f n)[zpos 82]? = some (zz_F (zG D f n) 82 (zM0 82)) := rfl
theorem zmk_83 : (zLL D f n)[zpos 83]? = some (zz_F (zG D f n) 83 (zM0 83)) := rfl
theorem zmk_84 : (zLL D f n)[zpos 84]? = some (zz_F (zG D f n) 84 (zM0 84)) := rfl
theorem zmk_85 : (zLL D f n)[zpos 85]? = some (zz_F (zG D f n) 85 (zM0 85)) := rfl
theorem zmk_86 : (zLL D f n)[zpos 86]? = some (zz_F (zG D f n) 86 (zM0 86)) := rfl
theorem zmk_87 : (zLL D f n)[zpos 87]? = some (zz_F (zG D f n) 87 (zM0 87)) := rfl
theorem zmk_88 : (zLL D f n)[zpos 88]? = some (zz_F (zG D f n) 88 (zM0 88)) := rfl
theorem zmk_89 : (zLL D f n)[zpos 89]? = some (zz_F (zG D f n) 89 (zM0 89)) := rfl
theorem zmk_90 : (zLL D f n)[zpos 90]? = some (zz_F (zG D f n) 90 (zM0 90)) := rfl
theorem zmk_91 : (zLL D f n)[zpos 91]? = some (zz_F (zG D f n) 91 (zM0 91)) := rfl
theorem zmk_92 : (zLL D f n)[zpos 92]? = some (zz_F (zG D f n) 92 (zM0 92)) := rfl
theorem zmk_93 : (zLL D f n)[zpos 93]? = some (zz_F (zG D f n) 93 (zM0 93)) := rfl
theorem zmk_94 : (zLL D f n)[zpos 94]? = some (zz_F (zG D f n) 94 (zM0 94)) := rfl
theorem zmk_95 : (zLL D f n)[zpos 95]? = some (zz_F (zG D f n) 95 (zM0 95)) := rfl
theorem zmk_96 : (zLL D f n)[zpos 96]? = some (zz_F (zG D f n) 96 (zM0 96)) := rfl
theorem zmk_97 : (zLL D f n)[zpos 97]? = some (zz_F (zG D f n) 97 (zM0 97)) := rfl
theorem zmk_98 : (zLL D f n)[zpos 98]? = some (zz_F (zG D f n) 98 (zM0 98)) := rfl
theorem zmk_99 : (zLL D f n)[zpos 99]? = some (zz_F (zG D f n) 99 (zM0 99)) := rfl
theorem zmk_100 : (zLL D f n)[zpos 100]? = some (zz_F (zG D f n) 100 (zM0 100)) := rfl
theorem zmk_101 : (zLL D f n)[zpos 101]? = some (zz_F (zG D f n) 101 (zM0 101)) := rfl
theorem zmk_102 : (zLL D f n)[zpos 102]? = some (zz_F (zG D f n) 102 (zM0 102)) := rfl
theorem zmk_103 : (zLL D f n)[zpos 103]? = some (zz_F (zG D f n) 103 (zM0 103)) := rfl
theorem zmk_104 : (zLL D f n)[zpos 104]? = some (zz_F (zG D f n) 104 (zM0 104)) := rfl
theorem zmk_105 : (zLL D f n)[zpos 105]? = some (zz_F (zG D f n) 105 (zM0 105)) := rfl
theorem zmk_106 : (zLL D f n)[zpos 106]? = some (zz_F (zG D f n) 106 (zM0 106)) := rfl
theorem zmk_107 : (zLL D f n)[zpos 107]? = some (zz_F (zG D f n) 107 (zM0 107)) := rfl
theorem zmk_108 : (zLL D f n)[zpos 108]? = some (zz_F (zG D f n) 108 (zM0 108)) := rfl
theorem zmk_109 : (zLL D f n)[zpos 109]? = some (zz_F (zG D f n) 109 (zM0 109)) := rfl
theorem zmk_110 : (zLL D f n)[zpos 110]? = some (zz_F (zG D f n) 110 (zM0 110)) := rfl
theorem zmq {a c : Nat} {C : ClassId} {g : Nat → Option Nat} {h : Nat → Nat} {H : Heap} (hP : va_at D vwCl (a, yy_rq C c g) H) (hg : ∀ i, i < c → g i = some (h i)) : va_at D vwCl (a, .inl (C, c, zz_rf h)) H := by
  have h1 : H[a]? = some (vp_cell C (c, .inr (.inr (.inr (.inr g))))) := hP
  show H[a]? = some (vp_cell C (c, .inr (.inr (.inr (.inr (fun i => some (h i)))))))
  rw [h1, vp_cell_q, vp_cell_q]
  exact congrArg some (arrV_ext (fun i hi => by rw [hg i hi]))
theorem zmk_5 : (zLL D f n)[zpos 5]? = some (yy_rq (f 2) 20 (yy_u 20 (fun q => n + 4 + 2 + 3 * q))) := rfl
theorem zmk_14 : (zLL D f n)[zpos 14]? = some (yy_rq (f 3) 6 (fun i => if i < 6 then some (n + 73 + 1 + 1 + i) else none)) := rfl
theorem zmk_23 : (zLL D f n)[zpos 23]? = some (yy_rq (f 1) 6 (yy_u 6 (fun q => n + 82 + 2 + 2 * q))) := rfl
variable {D f n}
theorem zmk {H : Heap} (hP : yy_P (zG D f n) n (zLL D f n) H) : ∀ k, k < 111 → va_at D vwCl ((zG D f n).2.2 k, zz_F (zG D f n) k (zM0 k)) H := by
  intro k hk
  match k, hk with
  | 0, _ => exact hP.2 _ _ (zmk_0 D f n)
  | 1, _ => exact hP.2 _ _ (zmk_1 D f n)
  | 2, _ => exact hP.2 _ _ (zmk_2 D f n)
  | 3, _ => exact hP.2 _ _ (zmk_3 D f n)
  | 4, _ => exact hP.2 _ _ (zmk_4 D f n)
  | 5, _ => exact zmq D (hP.2 _ _ (zmk_5 D f n)) (fun i hi => by show yy_u 20 _ i = some (n + zpos (40 + 3 * i)); rw [zpos_t i hi]; unfold yy_u; rw [if_pos hi]; congr 1; omega)
  | 6, _ => exact hP.2 _ _ (zmk_6 D f n)
  | 7, _ => exact hP.2 _ _ (zmk_7 D f n)
  | 8, _ => exact hP.2 _ _ (zmk_8 D f n)
  | 9, _ => exact hP.2 _ _ (zmk_9 D f n)
  | 10, _ => exact hP.2 _ _ (zmk_10 D f n)
  | 11, _ => exact hP.2 _ _ (zmk_11 D f n)
  | 12, _ => exact hP.2 _ _ (zmk_12 D f n)
  | 13, _ => exact hP.2 _ _ (zmk_13 D f n)
  | 14, _ => exact zmq D (hP.2 _ _ (zmk_14 D f n)) (fun i hi => by show (if i < 6 then some (n + 73 + 1 + 1 + i) else none) = some (n + zpos (16 + i)); rw [zpos_c i hi, if_pos hi]; congr 1; omega)
  | 15, _ => exact hP.2 _ _ (zmk_15 D f n)
  | 16, _ => exact hP.2 _ _ (zmk_16 D f n)
  | 17, _ => exact hP.2 _ _ (zmk_17 D f n)
  | 18, _ => exact hP.2 _ _ (zmk_18 D f n)
  | 19, _ => exact hP.2 _ _ (zmk_19 D f n)
  | 20, _ => exact hP.2 _ _ (zmk_20 D f n)
  | 21, _ => exact hP.2 _ _ (zmk_21 D f n)
  | 22, _ => exact hP.2 _ _ (zmk_22 D f n)
  | 23, _ => exact zmq D (hP.2 _ _ (zmk_23 D f n)) (fun i hi => by show yy_u 6 _ i = some (n + zpos (24 + 2 * i)); rw [zpos_r i hi]; unfold yy_u; rw [if_pos hi]; congr 1; omega)
  | 24, _ => exact hP.2 _ _ (zmk_24 D f n)
  | 25, _ => exact hP.2 _ _ (zmk_25 D f n)
  | 26, _ => exact hP.2 _ _ (zmk_26 D f n)
  | 27, _ => exact hP.2 _ _ (zmk_27 D f n)
  | 28, _ => exact hP.2 _ _ (zmk_28 D f n)
  | 29, _ => exact hP.2 _ _ (zmk_29 D f n)
  | 30, _ => exact hP.2 _ _ (zmk_30 D f n)
  | 31, _ => exact hP.2 _ _ (zmk_31 D f n)
  | 32, _ => exact hP.2 _ _ (zmk_32 D f n)
  | 33, _ => exact hP.2 _ _ (zmk_33 D f n)
  | 34, _ => exact hP.2 _ _ (zmk_34 D f n)
  | 35, _ => exact hP.2 _ _ (zmk_35 D f n)
  | 36, _ => exact hP.2 _ _ (zmk_36 D f n)
  | 37, _ => exact hP.2 _ _ (zmk_37 D f n)
  | 38, _ => exact hP.2 _ _ (zmk_38 D f n)
  | 39, _ => exact hP.2 _ _ (zmk_39 D f n)
  | 40, _ => exact hP.2 _ _ (zmk_40 D f n)
  | 41, _ => exact hP.2 _ _ (zmk_41 D f n)
  | 42, _ => exact hP.2 _ _ (zmk_42 D f n)
  | 43, _ => exact hP.2 _ _ (zmk_43 D f n)
  | 44, _ => exact hP.2 _ _ (zmk_44 D f n)
  | 45, _ => exact hP.2 _ _ (zmk_45 D f n)
  | 46, _ => exact hP.2 _ _ (zmk_46 D f n)
  | 47, _ => exact hP.2 _ _ (zmk_47 D f n)
  | 48, _ => exact hP.2 _ _ (zmk_48 D f n)
  | 49, _ => exact hP.2 _ _ (zmk_49 D f n)
  | 50, _ => exact hP.2 _ _ (zmk_50 D f n)
  | 51, _ => exact hP.2 _ _ (zmk_51 D f n)
  | 52, _ => exact hP.2 _ _ (zmk_52 D f n)
  | 53, _ => exact hP.2 _ _ (zmk_53 D f n)
  | 54, _ => exact hP.2 _ _ (zmk_54 D f n)
  | 55, _ => exact hP.2 _ _ (zmk_55 D f n)
  | 56, _ => exact hP.2 _ _ (zmk_56 D f n)
  | 57, _ => exact hP.2 _ _ (zmk_57 D f n)
  | 58, _ => exact hP.2 _ _ (zmk_58 D f n)
  | 59, _ => exact hP.2 _ _ (zmk_59 D f n)
  | 60, _ => exact hP.2 _ _ (zmk_60 D f n)
  | 61, _ => exact hP.2 _ _ (zmk_61 D f n)
  | 62, _ => exact hP.2 _ _ (zmk_62 D f n)
  | 63, _ => exact hP.2 _ _ (zmk_63 D f n)
  | 64, _ => exact hP.2 _ _ (zmk_64 D f n)
  | 65, _ => exact hP.2 _ _ (zmk_65 D f n)
  | 66, _ => exact hP.2 _ _ (zmk_66 D f n)
  | 67, _ => exact hP.2 _ _ (zmk_67 D f n)
  | 68, _ => exact hP.2 _ _ (zmk_68 D f n)
  | 69, _ => exact hP.2 _ _ (zmk_69 D f n)
  | 70, _ => exact hP.2 _ _ (zmk_70 D f n)
  | 71, _ => exact hP.2 _ _ (zmk_71 D f n)
  | 72, _ => exact hP.2 _ _ (zmk_72 D f n)
  | 73, _ => exact hP.2 _ _ (zmk_73 D f n)
  | 74, _ => exact hP.2 _ _ (zmk_74 D f n)
  | 75, _ => exact hP.2 _ _ (zmk_75 D f n)
  | 76, _ => exact hP.2 _ _ (zmk_76 D f n)
  | 77, _ => exact hP.2 _ _ (zmk_77 D f n)
  | 78, _ => exact hP.2 _ _ (zmk_78 D f n)
  | 79, _ => exact hP.2 _ _ (zmk_79 D f n)
  | 80, _ => exact hP.2 _ _ (zmk_80 D f n)
  | 81, _ => exact hP.2 _ _ (zmk_81 D f n)
  | 82, _ => exact hP.2 _ _ (zmk_82 D f n)
  | 83, _ => exact hP.2 _ _ (zmk_83 D f n)
  | 84, _ => exact hP.2 _ _ (zmk_84 D f n)
  | 85, _ => exact hP.2 _ _ (zmk_85 D f n)
  | 86, _ => exact hP.2 _ _ (zmk_86 D f n)
  | 87, _ => exact hP.2 _ _ (zmk_87 D f n)
  | 88, _ => exact hP.2 _ _ (zmk_88 D f n)
  | 89, _ => exact hP.2 _ _ (zmk_89 D f n)
  | 90, _ => exact hP.2 _ _ (zmk_90 D f n)
  | 91, _ => exact hP.2 _ _ (zmk_91 D f n)
  | 92, _ => exact hP.2 _ _ (zmk_92 D f n)
  | 93, _ => exact hP.2 _ _ (zmk_93 D f n)
  | 94, _ => exact hP.2 _ _ (zmk_94 D f n)
  | 95, _ => exact hP.2 _ _ (zmk_95 D f n)
  | 96, _ => exact hP.2 _ _ (zmk_96 D f n)
  | 97, _ => exact hP.2 _ _ (zmk_97 D f n)
  | 98, _ => exact hP.2 _ _ (zmk_98 D f n)
  | 99, _ => exact hP.2 _ _ (zmk_99 D f n)
  | 100, _ => exact hP.2 _ _ (zmk_100 D f n)
  | 101, _ => exact hP.2 _ _ (zmk_101 D f n)
  | 102, _ => exact hP.2 _ _ (zmk_102 D f n)
  | 103, _ => exact hP.2 _ _ (zmk_103 D f n)
  | 104, _ => exact hP.2 _ _ (zmk_104 D f n)
  | 105, _ => exact hP.2 _ _ (zmk_105 D f n)
  | 106, _ => exact hP.2 _ _ (zmk_106 D f n)
  | 107, _ => exact hP.2 _ _ (zmk_107 D f n)
  | 108, _ => exact hP.2 _ _ (zmk_108 D f n)
  | 109, _ => exact hP.2 _ _ (zmk_109 D f n)
  | 110, _ => exact hP.2 _ _ (zmk_110 D f n)
  | k + 111, h => exact absurd h (by omega)
theorem zm_P {H : Heap} (hP : yy_P (zG D f n) n (zLL D f n) H) : va_P D vwCl (zz_W (zG D f n) zM0) H := by
  intro k q hq
  obtain ⟨h1, rfl⟩ := zz_W_of hq
  exact zmk hP k h1
end ZW
