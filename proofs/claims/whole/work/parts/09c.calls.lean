theorem zro_ok : ∀ p, p < 1093 → zok (zro p 3) 3 6 = true := by decide +kernel
theorem zbx_ne {a b : Bool} : zz_b a = zz_b b ↔ a = b := by cases a <;> cases b <;> decide
theorem zfsi_lt {S : Nat → Option Nat} (hV : zV S) {w : Nat} (hw : w < 64) : ∀ n, zfsi S w n < 64
  | 0 => hw
  | n + 1 => zor_lt (zfsi_lt hV hw n) (zfof_lt hV _ 18 (Nat.le_refl _))
theorem zcl_neg {k : Int32} (h : -1 ≤ k) (h1 : ¬ k = -1) : ∃ i, i < 2 ^ 31 ∧ k = nI i := by
  refine nI_of ?_
  rw [Int32.lt_iff_toInt_lt]
  rw [Int32.le_iff_toInt_le, show (-1 : Int32).toInt = -1 by decide] at h
  show ¬ k.toInt < 0
  intro q
  apply h1
  apply Int32.toInt_inj.mp
  rw [show (-1 : Int32).toInt = -1 by decide]
  omega

theorem inX7_words_X7 : ∀ w ∈ u_ws RX7 TX7 8, w ∈ wsX7_words := by decide +kernel
theorem lkX7_words_42 : Cond.fieldLink RX7 42 RX7 "counts" "LFirstSigns$Counts;" ∈ wsX7_words := by decide +kernel
theorem lkX7_words_12 : Cond.fieldLink RX7 12 RX7 "table" "LFirstSigns$Table;" ∈ wsX7_words := by decide +kernel
set_option maxHeartbeats 4000000 in
set_option maxRecDepth 100000 in
theorem kkX7_words (l : Launch) (G : zz_C) (hJ : zz_J G) (M : zz_M) (S : Nat → Option Nat) (hs : List (Nat → Option Nat)) (x y : Int32) (hI : zI M S hs) : Met l yX7_words wsX7_words ({ frames := 5, cells := 0, slots := 0, locals := 118 } : Room) (zz_P G M [.ref (G.2.2 0), .int x, .int y]) (zz_Qi G (fun r M1 => zlo M M1 ∧ zI M1 S hs ∧ r = sp_words S x y)) 0 0 (zz_A G) := by
  refine zz_start hJ (by decide) rfl (Nat.le_of_ble_eq_true rfl) ?_
  intro p e s m below meth c E hr hlk
  have hts := E.2.2.2.2.1
  show zz_Z p l e (headSpec wsX7_words ({ frames := 5, cells := 0, slots := 0, locals := 118 } : Room)).room s m ([.ref (G.2.2 0), .int x, .int y] : List Value).toArray below meth c 0 0 (MQ below (zz_Qi G (fun r M1 => zlo M M1 ∧ zI M1 S hs ∧ r = sp_words S x y)) ([.ref (G.2.2 0), .int x, .int y] : List Value).toArray s 0 0 (zz_A G)) 3 G (zz_A G) M 0 [(0, .ref (G.2.2 0)), (1, .int x), (2, .int y)] []
  refine zz_iload_n (pc := 0) E dX7_words_0 rfl ?_
  refine zz_ciS (pc := 1) E (kkX7_isRowOfSigns l G hJ _ _ ) (va_cwS 1 hts gX7_words_X7_isRowOfSigns rfl rfl rfl (by decide +kernel) ⟨Nat.le_of_ble_eq_true rfl, Nat.le_of_ble_eq_true rfl⟩) rfl rfl (Nat.le_of_ble_eq_true rfl) dX7_words_1 (fun r1 M1 q1 => ?_)
  obtain ⟨rfl, rfl⟩ := q1
  refine zb_if_eq (pc := 4) (tgt := 17) E dX7_words_4 (by decide) (fun h4 => ?_) (fun h4 => ?_)
  · have hsp : sp_words S x y = -2 := by unfold sp_words; rw [if_neg (by rw [h4]; simp)]
    refine zz_bipush (pc := 17) (v := -2) E dX7_words_17 (by decide) ?_
    exact zz_iret (pc := 19) E hr hlk dX7_words_19 ⟨zI_lo_rf _, hI, by rw [hsp]⟩
  · refine zz_iload_n (pc := 7) E dX7_words_7 rfl ?_
    refine zz_if_lt (pc := 8) (tgt := 17) E dX7_words_8 (by decide) (fun h8 => ?_) (fun h8 => ?_)
    · have hsp : sp_words S x y = -2 := by unfold sp_words; rw [if_neg (by rw [zp_in_f1 h8]; simp)]
      refine zz_bipush (pc := 17) (v := -2) E dX7_words_17 (by decide) ?_
      exact zz_iret (pc := 19) E hr hlk dX7_words_19 ⟨zI_lo_rf _, hI, by rw [hsp]⟩
    · refine zz_iload_n (pc := 11) E dX7_words_11 rfl ?_
      refine zz_bipush (pc := 12) (v := nI 12) E dX7_words_12 (by decide) ?_
      refine zz_icmp_le (pc := 14) (tgt := 20) E dX7_words_14 (by decide) (fun h14 => ?_) (fun h14 => ?_)
      · obtain ⟨a, hxa, hza, han, ha9, ha31⟩ := zs_row_of h4 (by decide)
        have hw4 := zp_w3t h8 h14
        obtain ⟨n, hn, hyn⟩ := zp_in_of hw4 (by decide)
        have hsp : sp_words S x y = zrc (zcw S (n + 1)) (zr a) n := by unfold sp_words; rw [if_pos (by rw [h4, hw4]; rfl), ← han, hyn, nI_nat (by omega)]
        refine zz_aload_n (pc := 20) E dX7_words_20 rfl ?_
        refine zz_gf (pc := 21) E 0 (by decide) rfl rfl inX7_words_X7 4 (by decide) lkX7_words_42 (fun _ h => h) rfl dX7_words_21 ?_
        refine zz_aload_n (pc := 24) E dX7_words_24 rfl ?_
        refine zz_gf (pc := 25) E 0 (by decide) rfl rfl inX7_words_X7 0 (by decide) lkX7_words_12 (fun _ h => h) rfl dX7_words_25 ?_
        refine zz_iload_n (pc := 28) E dX7_words_28 rfl ?_
        refine zz_eqi (y := nI n) hyn ?_
        refine zz_cvV (pc := 29) E 13 (kkX0_find l G hJ _  S n hI.1 hI.2.2.1 (by omega)) (cwV 2 hts gX7_words_X0_find rfl rfl rfl (by decide +kernel) ⟨Nat.le_of_ble_eq_true rfl, Nat.le_of_ble_eq_true rfl⟩) (by decide) rfl rfl rfl rfl (Nat.le_of_ble_eq_true rfl) dX7_words_29 (fun M29 q29 => ?_)
        obtain ⟨f29, w29⟩ := q29
        refine zz_aload_n (pc := 32) E dX7_words_32 rfl ?_
        refine zz_gf (pc := 33) E 0 (by decide) rfl rfl inX7_words_X7 4 (by decide) lkX7_words_42 (fun _ h => h) rfl dX7_words_33 ?_
        refine zz_iload_n (pc := 36) E dX7_words_36 rfl ?_
        refine zz_eqi (y := nI a) hxa ?_
        refine zz_iload_n (pc := 37) E dX7_words_37 rfl ?_
        refine zz_eqi (y := zpm (n + 1)) hyn ?_
        refine zz_ciV (pc := 38) E 13 (kkX0_ofRow l G hJ _  a 9 (n + 1) hza (by decide) (by omega)) (cwV 2 hts gX7_words_X0_ofRow rfl rfl rfl (by decide +kernel) ⟨Nat.le_of_ble_eq_true rfl, Nat.le_of_ble_eq_true rfl⟩) (by decide) rfl rfl rfl rfl (Nat.le_of_ble_eq_true rfl) dX7_words_38 (fun r38 M38 q38 => ?_)
        obtain ⟨f38, rfl⟩ := q38
        exact zz_iret (pc := 41) E hr hlk dX7_words_41 ⟨zfr_lo (zfr_ct f29 f38 (ks := [15, 16, 17, 18, 19, 20, 21]) (by simp) (by simp)) (by decide), zI_fr hI (zfr_ct f29 f38 (ks := [15, 16, 17, 18, 19, 20, 21]) (by simp) (by simp)) (by decide), by rw [hsp]; exact zrc_congr (fun q hq i hi => w29 q (zr_lt hza q hq) i hi)⟩
      · have hsp : sp_words S x y = -2 := by unfold sp_words; rw [if_neg (by rw [zp_w3 h14]; simp)]
        refine zz_bipush (pc := 17) (v := -2) E dX7_words_17 (by decide) ?_
        exact zz_iret (pc := 19) E hr hlk dX7_words_19 ⟨zI_lo_rf _, hI, by rw [hsp]⟩

theorem clX7_parts_116 : Cond.constantLong RX7 116 (-9223372036854775808) ∈ wsX7_parts := by decide +kernel
theorem clX7_parts_118 : Cond.constantLong RX7 118 (-9) ∈ wsX7_parts := by decide +kernel
set_option maxHeartbeats 4000000 in
set_option maxRecDepth 100000 in
theorem kkX7_parts (l : Launch) (G : zz_C) (hJ : zz_J G) (M : zz_M) (S : Nat → Option Nat) (hs : List (Nat → Option Nat)) (x y z : Int32) (hI : zI M S hs) : Met l yX7_parts wsX7_parts ({ frames := 5, cells := 0, slots := 0, locals := 116 } : Room) (zz_P G M [.ref (G.2.2 0), .int x, .int y, .int z]) (zz_Ql G (fun r M1 => zlo M M1 ∧ zI M1 S hs ∧ r = sp_parts S x y z)) 0 0 (zz_A G) := by
  refine zz_start hJ (by decide) rfl (Nat.le_of_ble_eq_true rfl) ?_
  intro p e s m below meth c E hr hlk
  have hts := E.2.2.2.2.1
  show zz_Z p l e (headSpec wsX7_parts ({ frames := 5, cells := 0, slots := 0, locals := 116 } : Room)).room s m ([.ref (G.2.2 0), .int x, .int y, .int z] : List Value).toArray below meth c 0 0 (MQ below (zz_Ql G (fun r M1 => zlo M M1 ∧ zI M1 S hs ∧ r = sp_parts S x y z)) ([.ref (G.2.2 0), .int x, .int y, .int z] : List Value).toArray s 0 0 (zz_A G)) 6 G (zz_A G) M 0 [(0, .ref (G.2.2 0)), (1, .int x), (2, .int y), (3, .int z)] []
  refine zz_iload_n (pc := 0) E dX7_parts_0 rfl ?_
  refine zz_ciS (pc := 1) E (kkX7_isRowOfSigns l G hJ _ _ ) (va_cwS 1 hts gX7_parts_X7_isRowOfSigns rfl rfl rfl (by decide +kernel) ⟨Nat.le_of_ble_eq_true rfl, Nat.le_of_ble_eq_true rfl⟩) rfl rfl (Nat.le_of_ble_eq_true rfl) dX7_parts_1 (fun r1 M1 q1 => ?_)
  obtain ⟨rfl, rfl⟩ := q1
  refine zb_if_eq (pc := 4) (tgt := 23) E dX7_parts_4 (by decide) (fun h4 => ?_) (fun h4 => ?_)
  · have hsp : sp_parts S x y z = -9223372036854775808 := by unfold sp_parts; rw [if_neg (by rw [h4]; simp)]
    refine zz_ldc2 (pc := 23) (v := (-9223372036854775808)) E clX7_parts_116 dX7_parts_23 ?_
    exact zz_lret (pc := 26) E hr hlk dX7_parts_26 ⟨zI_lo_rf _, hI, by rw [hsp]⟩
  · refine zz_iload_n (pc := 7) E dX7_parts_7 rfl ?_
    refine zz_ciS (pc := 8) E (kkX7_isRowOfSigns l G hJ _ _ ) (va_cwS 1 hts gX7_parts_X7_isRowOfSigns rfl rfl rfl (by decide +kernel) ⟨Nat.le_of_ble_eq_true rfl, Nat.le_of_ble_eq_true rfl⟩) rfl rfl (Nat.le_of_ble_eq_true rfl) dX7_parts_8 (fun r8 M8 q8 => ?_)
    obtain ⟨rfl, rfl⟩ := q8
    refine zb_if_eq (pc := 11) (tgt := 23) E dX7_parts_11 (by decide) (fun h11 => ?_) (fun h11 => ?_)
    · have hsp : sp_parts S x y z = -9223372036854775808 := by unfold sp_parts; rw [if_neg (by rw [h11]; simp)]
      refine zz_ldc2 (pc := 23) (v := (-9223372036854775808)) E clX7_parts_116 dX7_parts_23 ?_
      exact zz_lret (pc := 26) E hr hlk dX7_parts_26 ⟨zI_lo_rf _, hI, by rw [hsp]⟩
    · refine zz_iload_n (pc := 14) E dX7_parts_14 rfl ?_
      refine zz_if_lt (pc := 15) (tgt := 23) E dX7_parts_15 (by decide) (fun h15 => ?_) (fun h15 => ?_)
      · have hsp : sp_parts S x y z = -9223372036854775808 := by unfold sp_parts; rw [if_neg (by rw [zp_in_f1 h15]; simp)]
        refine zz_ldc2 (pc := 23) (v := (-9223372036854775808)) E clX7_parts_116 dX7_parts_23 ?_
        exact zz_lret (pc := 26) E hr hlk dX7_parts_26 ⟨zI_lo_rf _, hI, by rw [hsp]⟩
      · refine zz_iload_n (pc := 18) E dX7_parts_18 rfl ?_
        refine zz_iconst (pc := 19) (v := nI 1) E dX7_parts_19 (by decide) ?_
        refine zz_icmp_le (pc := 20) (tgt := 27) E dX7_parts_20 (by decide) (fun h20 => ?_) (fun h20 => ?_)
        · obtain ⟨a, hxa, hza, han, ha9, ha31⟩ := zs_row_of h4 (by decide)
          obtain ⟨b, hyb, hzb, hbn, hb9, hb31⟩ := zs_row_of h11 (by decide)
          have hw4 := zp_w3t h15 h20
          obtain ⟨u, hu, hzu⟩ := zp_in_of hw4 (by decide)
          have hsp : sp_parts S x y z = match zfs (zpt S a b u) 0 1093 with | none => -9 | some p => lN (zro p 3) := by
            unfold sp_parts
            rw [if_pos (by rw [h4, h11, hw4]; rfl), ← han, ← hbn, hzu, nI_nat (by omega)]
            rfl
          refine zz_iconst (pc := 27) (v := nI 0) E dX7_parts_27 (by decide) ?_
          refine zz_istore (pc := 28) (lv' := [(0, _), (1, _), (2, _), (3, _), (4, _)]) E dX7_parts_28 (by decide) rfl ?_
          have key : ∀ (j i : Nat) (M2 : zz_M), i + j = 1093 → zfr [7, 8, 9, 10] M M2 → zfs (zpt S a b u) 0 1093 = zfs (zpt S a b u) i j → zz_Z p l e (headSpec wsX7_parts ({ frames := 5, cells := 0, slots := 0, locals := 116 } : Room)).room s m ([.ref (G.2.2 0), .int x, .int y, .int z] : List Value).toArray below meth c 0 0 (MQ below (zz_Ql G (fun r M1 => zlo M M1 ∧ zI M1 S hs ∧ r = sp_parts S x y z)) ([.ref (G.2.2 0), .int x, .int y, .int z] : List Value).toArray s 0 0 (zz_A G)) 6 G (zz_A G) M2 30 [(0, .ref (G.2.2 0)), (1, .int x), (2, .int y), (3, .int z), (4, .int (nI i))] [] := by
            intro j
            induction j with
            | zero =>
              intro i M2 hi hf he
              refine zz_iload (pc := 30) E dX7_parts_30 rfl ?_
              refine zz_sipush (pc := 32) (v := nI 1093) E dX7_parts_32 (by decide) ?_
              refine zn_icmp_ge (pc := 35) (tgt := 75) E dX7_parts_35 (by decide) (by omega) (by omega) (fun h35 => ?_) (fun h35 => ?_)
              · refine zz_ldc2 (pc := 75) (v := (-9)) E clX7_parts_118 dX7_parts_75 ?_
                exact zz_lret (pc := 78) E hr hlk dX7_parts_78 ⟨zfr_lo hf (by decide), zI_fr hI hf (by decide), by rw [hsp, he]; rfl⟩
              · exact absurd h35 (by omega)
            | succ j ih =>
              intro i M2 hi hf he
              have hS2 : ztab M2 1 S := ztab_fr hI.2.2.1 hf (by decide) (by decide)
              have hd := zro_ok i (by omega)
              have hd1 := zok_lt hd (by decide)
              rw [show zfs (zpt S a b u) i (j + 1) = if zpt S a b u i = true then some i else zfs (zpt S a b u) (i + 1) j from rfl] at he
              refine zz_iload (pc := 30) E dX7_parts_30 rfl ?_
              refine zz_sipush (pc := 32) (v := nI 1093) E dX7_parts_32 (by decide) ?_
              refine zn_icmp_ge (pc := 35) (tgt := 75) E dX7_parts_35 (by decide) (by omega) (by omega) (fun h35 => ?_) (fun h35 => ?_)
              · exact absurd h35 (by omega)
              · refine zz_iload (pc := 38) E dX7_parts_38 rfl ?_
                refine zz_iconst (pc := 40) (v := nI 3) E dX7_parts_40 (by decide) ?_
                refine zz_ciS (pc := 41) E (kkX7_rowInOrder l G hJ _ _ _ (by omega) (by decide)) (va_cwS 2 hts gX7_parts_X7_rowInOrder rfl rfl rfl (by decide +kernel) ⟨Nat.le_of_ble_eq_true rfl, Nat.le_of_ble_eq_true rfl⟩) rfl rfl (Nat.le_of_ble_eq_true rfl) dX7_parts_41 (fun r41 M41 q41 => ?_)
                obtain ⟨rfl, rfl⟩ := q41
                refine zz_istore (pc := 44) (lv' := [(0, _), (1, _), (2, _), (3, _), (4, _), (5, _)]) E dX7_parts_44 (by decide) rfl ?_
                refine zz_aload_n (pc := 46) E dX7_parts_46 rfl ?_
                refine zz_iload_n (pc := 47) E dX7_parts_47 rfl ?_
                refine zz_eqi (y := nI a) hxa ?_
                refine zz_iload (pc := 48) E dX7_parts_48 rfl ?_
                refine zz_iload_n (pc := 50) E dX7_parts_50 rfl ?_
                refine zz_eqi (y := nI u) hzu ?_
                refine zz_ciV (pc := 51) E 0 (kkX7_goesThrough l G hJ _  S a (zro i 3) u hI.1 hS2 hza hd (by omega)) (cwV 3 hts gX7_parts_X7_goesThrough rfl rfl rfl (by decide +kernel) ⟨Nat.le_of_ble_eq_true rfl, Nat.le_of_ble_eq_true rfl⟩) (by decide) rfl rfl rfl rfl (Nat.le_of_ble_eq_true rfl) dX7_parts_51 (fun r51 M51 q51 => ?_)
                obtain ⟨f51, rfl⟩ := q51
                refine zz_aload_n (pc := 54) E dX7_parts_54 rfl ?_
                refine zz_iload_n (pc := 55) E dX7_parts_55 rfl ?_
                refine zz_eqi (y := nI b) hyb ?_
                refine zz_iload (pc := 56) E dX7_parts_56 rfl ?_
                refine zz_iload_n (pc := 58) E dX7_parts_58 rfl ?_
                refine zz_eqi (y := nI u) hzu ?_
                refine zz_ciV (pc := 59) E 0 (kkX7_goesThrough l G hJ _  S b (zro i 3) u hI.1 (ztab_fr hS2 f51 (by decide) (by decide)) hzb hd (by omega)) (cwV 3 hts gX7_parts_X7_goesThrough rfl rfl rfl (by decide +kernel) ⟨Nat.le_of_ble_eq_true rfl, Nat.le_of_ble_eq_true rfl⟩) (by decide) rfl rfl rfl rfl (Nat.le_of_ble_eq_true rfl) dX7_parts_59 (fun r59 M59 q59 => ?_)
                obtain ⟨f59, rfl⟩ := q59
                refine zz_icmp_eq (pc := 62) (tgt := 69) E dX7_parts_62 (by decide) (fun h62 => ?_) (fun h62 => ?_)
                · rw [zbx_ne] at h62
                  have hpf : zpt S a b u i = false := by unfold zpt; rw [h62]; simp
                  rw [hpf] at he
                  refine zn_inc (pc := 69) (lv' := [(0, _), (1, _), (2, _), (3, _), (4, _), (5, _)]) E dX7_parts_69 rfl (by decide) rfl ?_
                  refine zz_goto (pc := 72) (tgt := 30) E dX7_parts_72 (by decide) ?_
                  exact zz_to (ih (i + 1) M59 (by omega) (zfr_ct (zfr_ct hf f51 (ks := [7, 8, 9, 10]) (fun _ h => h) (fun _ h => h)) f59 (fun _ h => h) (fun _ h => h)) he) ⟨rfl, rfl, rfl, rfl, rfl, trivial⟩
                · rw [zbx_ne] at h62
                  have hpt : zpt S a b u i = true := by unfold zpt; simp [h62]
                  rw [if_pos hpt] at he
                  refine zz_iload (pc := 65) E dX7_parts_65 rfl ?_
                  refine zz_eqi (y := nI (zro i 3)) rfl ?_
                  refine zn_i2l (pc := 67) E dX7_parts_67 (by omega) ?_
                  exact zz_lret (pc := 68) E hr hlk dX7_parts_68 ⟨zfr_lo (zfr_ct (zfr_ct hf f51 (ks := [7, 8, 9, 10]) (fun _ h => h) (fun _ h => h)) f59 (ks := [7, 8, 9, 10]) (fun _ h => h) (fun _ h => h)) (by decide), zI_fr hI (zfr_ct (zfr_ct hf f51 (ks := [7, 8, 9, 10]) (fun _ h => h) (fun _ h => h)) f59 (ks := [7, 8, 9, 10]) (fun _ h => h) (fun _ h => h)) (by decide), by rw [hsp, he]⟩
          exact zz_to (key 1093 0 M (by omega) (zfr_rf _ _) rfl) ⟨rfl, rfl, rfl, rfl, rfl, trivial⟩
        · have hsp : sp_parts S x y z = -9223372036854775808 := by unfold sp_parts; rw [if_neg (by rw [zp_w3 h20]; simp)]
          refine zz_ldc2 (pc := 23) (v := (-9223372036854775808)) E clX7_parts_116 dX7_parts_23 ?_
          exact zz_lret (pc := 26) E hr hlk dX7_parts_26 ⟨zI_lo_rf _, hI, by rw [hsp]⟩

theorem inX7_firsts_X7 : ∀ w ∈ u_ws RX7 TX7 8, w ∈ wsX7_firsts := by decide +kernel
theorem lkX7_firsts_35 : Cond.fieldLink RX7 35 RX7 "norms" "LFirstSigns$Norms;" ∈ wsX7_firsts := by decide +kernel
theorem lkX7_firsts_12 : Cond.fieldLink RX7 12 RX7 "table" "LFirstSigns$Table;" ∈ wsX7_firsts := by decide +kernel
set_option maxHeartbeats 4000000 in
set_option maxRecDepth 100000 in
theorem kkX7_firsts (l : Launch) (G : zz_C) (hJ : zz_J G) (M : zz_M) (S : Nat → Option Nat) (hs : List (Nat → Option Nat)) (x : Int32) (hI : zI M S hs) : Met l yX7_firsts wsX7_firsts ({ frames := 6, cells := 0, slots := 0, locals := 139 } : Room) (zz_P G M [.ref (G.2.2 0), .int x]) (zz_Qi G (fun r M1 => zlo M M1 ∧ zI M1 S hs ∧ r = sp_firsts S x)) 0 0 (zz_A G) := by
  refine zz_start hJ (by decide) rfl (Nat.le_of_ble_eq_true rfl) ?_
  intro p e s m below meth c E hr hlk
  have hts := E.2.2.2.2.1
  show zz_Z p l e (headSpec wsX7_firsts ({ frames := 6, cells := 0, slots := 0, locals := 139 } : Room)).room s m ([.ref (G.2.2 0), .int x] : List Value).toArray below meth c 0 0 (MQ below (zz_Qi G (fun r M1 => zlo M M1 ∧ zI M1 S hs ∧ r = sp_firsts S x)) ([.ref (G.2.2 0), .int x] : List Value).toArray s 0 0 (zz_A G)) 4 G (zz_A G) M 0 [(0, .ref (G.2.2 0)), (1, .int x)] []
  refine zz_iload_n (pc := 0) E dX7_firsts_0 rfl ?_
  refine zz_ciS (pc := 1) E (kkX7_isRowOfSigns l G hJ _ _ ) (va_cwS 1 hts gX7_firsts_X7_isRowOfSigns rfl rfl rfl (by decide +kernel) ⟨Nat.le_of_ble_eq_true rfl, Nat.le_of_ble_eq_true rfl⟩) rfl rfl (Nat.le_of_ble_eq_true rfl) dX7_firsts_1 (fun r1 M1 q1 => ?_)
  obtain ⟨rfl, rfl⟩ := q1
  refine zb_if_ne (pc := 4) (tgt := 10) E dX7_firsts_4 (by decide) (fun h4 => ?_) (fun h4 => ?_)
  · obtain ⟨a, hxa, hza, han, ha9, ha31⟩ := zs_row_of h4 (by decide)
    have hsp : sp_firsts S x = nI (zfsi S (zfw (zit S 36) (zr a)) 6) := by unfold sp_firsts; rw [if_pos h4, ← han]
    have hw0 := zfw_lt (zit S 36) (zr a) (zr_lt hza)
    refine zz_aload_n (pc := 10) E dX7_firsts_10 rfl ?_
    refine zz_gf (pc := 11) E 0 (by decide) rfl rfl inX7_firsts_X7 3 (by decide) lkX7_firsts_35 (fun _ h => h) rfl dX7_firsts_11 ?_
    refine zz_aload_n (pc := 14) E dX7_firsts_14 rfl ?_
    refine zz_gf (pc := 15) E 0 (by decide) rfl rfl inX7_firsts_X7 0 (by decide) lkX7_firsts_12 (fun _ h => h) rfl dX7_firsts_15 ?_
    refine zz_cvV (pc := 18) E 11 (kkX2_find l G hJ _  S hI.1 hI.2.2.1) (cwV 1 hts gX7_firsts_X2_find rfl rfl rfl (by decide +kernel) ⟨Nat.le_of_ble_eq_true rfl, Nat.le_of_ble_eq_true rfl⟩) (by decide) rfl rfl rfl rfl (Nat.le_of_ble_eq_true rfl) dX7_firsts_18 (fun M18 q18 => ?_)
    obtain ⟨f18, w18⟩ := q18
    refine zz_aload_n (pc := 21) E dX7_firsts_21 rfl ?_
    refine zz_gf (pc := 22) E 0 (by decide) rfl rfl inX7_firsts_X7 3 (by decide) lkX7_firsts_35 (fun _ h => h) rfl dX7_firsts_22 ?_
    refine zz_iload_n (pc := 25) E dX7_firsts_25 rfl ?_
    refine zz_eqi (y := nI a) hxa ?_
    refine zz_ciV (pc := 26) E 11 (kkX2_firstsWithin l G hJ _  (zit S 36) a 9 364 w18 (zit_bd hI.1 36) (by decide) hza (by decide)) (cwV 1 hts gX7_firsts_X2_firstsWithin rfl rfl rfl (by decide +kernel) ⟨Nat.le_of_ble_eq_true rfl, Nat.le_of_ble_eq_true rfl⟩) (by decide) rfl rfl rfl rfl (Nat.le_of_ble_eq_true rfl) dX7_firsts_26 (fun r26 M26 q26 => ?_)
    obtain ⟨rfl, rfl⟩ := q26
    refine zz_istore_n (pc := 29) (lv' := [(0, _), (1, _), (2, _)]) E dX7_firsts_29 (by decide) rfl ?_
    refine zz_iconst (pc := 30) (v := nI 0) E dX7_firsts_30 (by decide) ?_
    refine zz_istore_n (pc := 31) (lv' := [(0, _), (1, _), (2, _), (3, _)]) E dX7_firsts_31 (by decide) rfl ?_
    have key : ∀ (j i : Nat), i + j = 6 → zz_Z p l e (headSpec wsX7_firsts ({ frames := 6, cells := 0, slots := 0, locals := 139 } : Room)).room s m ([.ref (G.2.2 0), .int x] : List Value).toArray below meth c 0 0 (MQ below (zz_Qi G (fun r M1 => zlo M M1 ∧ zI M1 S hs ∧ r = sp_firsts S x)) ([.ref (G.2.2 0), .int x] : List Value).toArray s 0 0 (zz_A G)) 4 G (zz_A G) M18 32 [(0, .ref (G.2.2 0)), (1, .int x), (2, .int (nI (zfsi S (zfw (zit S 36) (zr a)) i))), (3, .int (nI i))] [] := by
      intro j
      induction j with
      | zero =>
        intro i hi
        refine zz_iload_n (pc := 32) E dX7_firsts_32 rfl ?_
        refine zz_bipush (pc := 33) (v := nI 6) E dX7_firsts_33 (by decide) ?_
        refine zn_icmp_ge (pc := 35) (tgt := 52) E dX7_firsts_35 (by decide) (by omega) (by omega) (fun h35 => ?_) (fun h35 => ?_)
        · refine zz_iload_n (pc := 52) E dX7_firsts_52 rfl ?_
          exact zz_iret (pc := 53) E hr hlk dX7_firsts_53 ⟨zfr_lo f18 (by decide), zI_fr hI f18 (by decide), by rw [hsp, show i = 6 by omega]⟩
        · exact absurd h35 (by omega)
      | succ j ih =>
        intro i hi
        have hlt := zfsi_lt hI.1 hw0 i
        refine zz_iload_n (pc := 32) E dX7_firsts_32 rfl ?_
        refine zz_bipush (pc := 33) (v := nI 6) E dX7_firsts_33 (by decide) ?_
        refine zn_icmp_ge (pc := 35) (tgt := 52) E dX7_firsts_35 (by decide) (by omega) (by omega) (fun h35 => ?_) (fun h35 => ?_)
        · exact absurd h35 (by omega)
        · refine zz_iload_n (pc := 38) E dX7_firsts_38 rfl ?_
          refine zz_aload_n (pc := 39) E dX7_firsts_39 rfl ?_
          refine zz_iload_n (pc := 40) E dX7_firsts_40 rfl ?_
          refine zz_ciV (pc := 41) E 0 (kkX7_firstsOfRules l G hJ _  S _ hI.1 (ztab_fr hI.2.2.1 f18 (by decide) (by decide)) w18 hlt) (cwV 1 hts gX7_firsts_X7_firstsOfRules rfl rfl rfl (by decide +kernel) ⟨Nat.le_of_ble_eq_true rfl, Nat.le_of_ble_eq_true rfl⟩) (by decide) rfl rfl rfl rfl (Nat.le_of_ble_eq_true rfl) dX7_firsts_41 (fun r41 M41 q41 => ?_)
          obtain ⟨rfl, rfl⟩ := q41
          refine zz_ior (pc := 44) E dX7_firsts_44 ?_
          refine zz_eqi (y := nI (zfsi S (zfw (zit S 36) (zr a)) (i + 1))) (zor_ok _ hlt _ (zfof_lt hI.1 _ 18 (Nat.le_refl _))) ?_
          refine zz_istore_n (pc := 45) (lv' := [(0, _), (1, _), (2, _), (3, _)]) E dX7_firsts_45 (by decide) rfl ?_
          refine zn_inc (pc := 46) (lv' := [(0, _), (1, _), (2, _), (3, _)]) E dX7_firsts_46 rfl (by decide) rfl ?_
          refine zz_goto (pc := 49) (tgt := 32) E dX7_firsts_49 (by decide) ?_
          exact zz_to (ih (i + 1) (by omega)) ⟨rfl, rfl, rfl, rfl, trivial⟩
    exact zz_to (key 6 0 (by omega)) ⟨rfl, rfl, rfl, rfl, trivial⟩
  · have hsp : sp_firsts S x = -2 := by unfold sp_firsts; rw [if_neg (by rw [h4]; simp)]
    refine zz_bipush (pc := 7) (v := -2) E dX7_firsts_7 (by decide) ?_
    exact zz_iret (pc := 9) E hr hlk dX7_firsts_9 ⟨zI_lo_rf _, hI, by rw [hsp]⟩

theorem inX7_claim_X7 : ∀ w ∈ u_ws RX7 TX7 8, w ∈ wsX7_claim := by decide +kernel
theorem lkX7_claim_21 : Cond.fieldLink RX7 21 RX7 "past" "LFirstSigns$Past;" ∈ wsX7_claim := by decide +kernel
theorem lkX7_claim_12 : Cond.fieldLink RX7 12 RX7 "table" "LFirstSigns$Table;" ∈ wsX7_claim := by decide +kernel
set_option maxHeartbeats 4000000 in
set_option maxRecDepth 100000 in
theorem kkX7_claim (l : Launch) (G : zz_C) (hJ : zz_J G) (M : zz_M) (S : Nat → Option Nat) (hs : List (Nat → Option Nat)) (x z : Int32) (hI : zI M S hs) : Met l yX7_claim wsX7_claim ({ frames := 3, cells := 0, slots := 0, locals := 102 } : Room) (zz_P G M [.ref (G.2.2 0), .int x, .int z]) (zz_Qi G (fun r M1 => zlo M M1 ∧ r = (sp_claim S hs x z).1 ∧ zI M1 (sp_claim S hs x z).2.1 (sp_claim S hs x z).2.2)) 0 0 (zz_A G) := by
  refine zz_start hJ (by decide) rfl (Nat.le_of_ble_eq_true rfl) ?_
  intro p e s m below meth c E hr hlk
  have hts := E.2.2.2.2.1
  show zz_Z p l e (headSpec wsX7_claim ({ frames := 3, cells := 0, slots := 0, locals := 102 } : Room)).room s m ([.ref (G.2.2 0), .int x, .int z] : List Value).toArray below meth c 0 0 (MQ below (zz_Qi G (fun r M1 => zlo M M1 ∧ r = (sp_claim S hs x z).1 ∧ zI M1 (sp_claim S hs x z).2.1 (sp_claim S hs x z).2.2)) ([.ref (G.2.2 0), .int x, .int z] : List Value).toArray s 0 0 (zz_A G)) 4 G (zz_A G) M 0 [(0, .ref (G.2.2 0)), (1, .int x), (2, .int z)] []
  obtain ⟨hV, hh, hS, nx, hp⟩ := id hI
  refine zz_iload_n (pc := 0) E dX7_claim_0 rfl ?_
  refine zz_ciS (pc := 1) E (kkX7_isSign l G hJ _ _ ) (va_cwS 1 hts gX7_claim_X7_isSign rfl rfl rfl (by decide +kernel) ⟨Nat.le_of_ble_eq_true rfl, Nat.le_of_ble_eq_true rfl⟩) rfl rfl (Nat.le_of_ble_eq_true rfl) dX7_claim_1 (fun r1 M1 q1 => ?_)
  obtain ⟨rfl, rfl⟩ := q1
  refine zb_if_ne (pc := 4) (tgt := 9) E dX7_claim_4 (by decide) (fun h4 => ?_) (fun h4 => ?_)
  · obtain ⟨s0, hs0, hxs⟩ := zp_in_of h4 (by decide)
    have hxn : x.toInt.toNat = s0 := by rw [hxs, nI_nat (by omega)]
    refine zz_iload_n (pc := 9) E dX7_claim_9 rfl ?_
    refine zz_bipush (pc := 10) (v := -9) E dX7_claim_10 (by decide) ?_
    refine zz_icmp_eq (pc := 12) (tgt := 32) E dX7_claim_12 (by decide) (fun h12 => ?_) (fun h12 => ?_)
    · have hzz : zclm x z = true := by unfold zclm; rw [decide_eq_true h12]; rfl
      have hsp : sp_claim S hs x z = (zo (S (18 + s0)), zvu S (18 + s0) (zin z), zkp S hs) := by unfold sp_claim; rw [if_pos h4, if_pos hzz, hxn]
      unfold zclm at hzz
      rw [hxn] at hzz
      have hz1 : (decide (z = -9) || zs_row z.toInt64 s0 3) = true := by simp only [Bool.or_eq_true, Bool.and_eq_true] at hzz ⊢; rcases hzz with h | h; exact Or.inl h; exact Or.inr h.1
      refine zz_aload_n (pc := 32) E dX7_claim_32 rfl ?_
      refine zz_gf (pc := 33) E 0 (by decide) rfl rfl inX7_claim_X7 1 (by decide) lkX7_claim_21 (fun _ h => h) rfl dX7_claim_33 ?_
      refine zz_aload_n (pc := 36) E dX7_claim_36 rfl ?_
      refine zz_gf (pc := 37) E 0 (by decide) rfl rfl inX7_claim_X7 0 (by decide) lkX7_claim_12 (fun _ h => h) rfl dX7_claim_37 ?_
      refine zz_cvV (pc := 40) E 4 (kkX3_keep l G hJ _  nx hs S hp hS) (cwV 1 hts gX7_claim_X3_keep rfl rfl rfl (by decide +kernel) ⟨Nat.le_of_ble_eq_true rfl, Nat.le_of_ble_eq_true rfl⟩) (by decide) rfl rfl rfl rfl (Nat.le_of_ble_eq_true rfl) dX7_claim_40 (fun M40 q40 => ?_)
      obtain ⟨f40, w40⟩ := q40
      have hS2 : ztab M40 1 S := ztab_fr hS f40 (by decide) (by decide)
      have hr2 : M40 (1 + 2) s0 = zo (S (18 + s0)) := hS2.2 s0 hs0
      refine zz_aload_n (pc := 43) E dX7_claim_43 rfl ?_
      refine zz_gf (pc := 44) E 0 (by decide) rfl rfl inX7_claim_X7 0 (by decide) lkX7_claim_12 (fun _ h => h) rfl dX7_claim_44 ?_
      refine zz_iload_n (pc := 47) E dX7_claim_47 rfl ?_
      refine zz_eqi (y := nI s0) hxs ?_
      refine zz_ciV (pc := 48) E 1 (kkX6_claimOf l G hJ _ _ zz_T1 s0 hs0) (cwV 1 hts gX7_claim_X6_claimOf rfl rfl rfl (by decide +kernel) ⟨Nat.le_of_ble_eq_true rfl, Nat.le_of_ble_eq_true rfl⟩) (by decide) rfl rfl rfl rfl (Nat.le_of_ble_eq_true rfl) dX7_claim_48 (fun r48 M48 q48 => ?_)
      obtain ⟨rfl, rfl⟩ := q48
      refine zz_eqi (y := zo (S (18 + s0))) hr2 ?_
      refine zz_istore_n (pc := 51) (lv' := [(0, _), (1, _), (2, _), (3, _)]) E dX7_claim_51 (by decide) rfl ?_
      refine zz_aload_n (pc := 52) E dX7_claim_52 rfl ?_
      refine zz_gf (pc := 53) E 0 (by decide) rfl rfl inX7_claim_X7 0 (by decide) lkX7_claim_12 (fun _ h => h) rfl dX7_claim_53 ?_
      refine zz_iload_n (pc := 56) E dX7_claim_56 rfl ?_
      refine zz_eqi (y := nI s0) hxs ?_
      refine zz_iload_n (pc := 57) E dX7_claim_57 rfl ?_
      refine zz_cvV (pc := 58) E 1 (kkX6_setClaim l G hJ _ _ zz_T1 s0 _ hs0) (cwV 2 hts gX7_claim_X6_setClaim rfl rfl rfl (by decide +kernel) ⟨Nat.le_of_ble_eq_true rfl, Nat.le_of_ble_eq_true rfl⟩) (by decide) rfl rfl rfl rfl (Nat.le_of_ble_eq_true rfl) dX7_claim_58 (fun M58 q58 => ?_)
      obtain rfl := q58
      refine zz_iload_n (pc := 61) E dX7_claim_61 rfl ?_
      exact zz_iret (pc := 62) E hr hlk dX7_claim_62 ⟨zlo_up (zfr_lo f40 zKP_lo) (by decide), by rw [hsp], by rw [hsp]; exact ⟨zV_clm hV hs0 (fun a ha => ⟨(zin_ok hz1 (by decide) ha).1, zin_ne hzz ha⟩), zkp_V hV hh, ztab_clm hS2 hs0 (zo_zin hz1 (by decide)), _, zpast_fr (ks := [3]) w40 (zfr_up (zfr_rf _ _) (by simp)) (by decide)⟩⟩
    · refine zz_iload_n (pc := 15) E dX7_claim_15 rfl ?_
      refine zz_if_eq (pc := 16) (tgt := 29) E dX7_claim_16 (by decide) (fun h16 => ?_) (fun h16 => ?_)
      · have hsp : sp_claim S hs x z = (-2, S, hs) := by unfold sp_claim; rw [if_pos h4, if_neg (by unfold zclm; rw [decide_eq_false h12, h16]; simp; intro; rfl)]
        refine zz_bipush (pc := 29) (v := -2) E dX7_claim_29 (by decide) ?_
        exact zz_iret (pc := 31) E hr hlk dX7_claim_31 ⟨zI_lo_rf _, by rw [hsp], by rw [hsp]; exact hI⟩
      · refine zz_iload_n (pc := 19) E dX7_claim_19 rfl ?_
        refine zz_i2l (pc := 20) E dX7_claim_20 rfl ?_
        refine zz_iload_n (pc := 21) E dX7_claim_21 rfl ?_
        refine zz_eqi (y := nI s0) hxs ?_
        refine zz_iconst (pc := 22) (v := nI 3) E dX7_claim_22 (by decide) ?_
        refine zz_ciS (pc := 23) E (kkX7_isRow l G hJ _ _ _ _ (by omega) (by decide)) (va_cwS 3 hts gX7_claim_X7_isRow rfl rfl rfl (by decide +kernel) ⟨Nat.le_of_ble_eq_true rfl, Nat.le_of_ble_eq_true rfl⟩) rfl rfl (Nat.le_of_ble_eq_true rfl) dX7_claim_23 (fun r23 M23 q23 => ?_)
        obtain ⟨rfl, rfl⟩ := q23
        refine zb_if_ne (pc := 26) (tgt := 32) E dX7_claim_26 (by decide) (fun h26 => ?_) (fun h26 => ?_)
        · have hzz : zclm x z = true := by unfold zclm; rw [hxn, h26, decide_eq_false (z64_ne h16)]; simp
          have hsp : sp_claim S hs x z = (zo (S (18 + s0)), zvu S (18 + s0) (zin z), zkp S hs) := by unfold sp_claim; rw [if_pos h4, if_pos hzz, hxn]
          unfold zclm at hzz
          rw [hxn] at hzz
          have hz1 : (decide (z = -9) || zs_row z.toInt64 s0 3) = true := by simp only [Bool.or_eq_true, Bool.and_eq_true] at hzz ⊢; rcases hzz with h | h; exact Or.inl h; exact Or.inr h.1
          refine zz_aload_n (pc := 32) E dX7_claim_32 rfl ?_
          refine zz_gf (pc := 33) E 0 (by decide) rfl rfl inX7_claim_X7 1 (by decide) lkX7_claim_21 (fun _ h => h) rfl dX7_claim_33 ?_
          refine zz_aload_n (pc := 36) E dX7_claim_36 rfl ?_
          refine zz_gf (pc := 37) E 0 (by decide) rfl rfl inX7_claim_X7 0 (by decide) lkX7_claim_12 (fun _ h => h) rfl dX7_claim_37 ?_
          refine zz_cvV (pc := 40) E 4 (kkX3_keep l G hJ _  nx hs S hp hS) (cwV 1 hts gX7_claim_X3_keep rfl rfl rfl (by decide +kernel) ⟨Nat.le_of_ble_eq_true rfl, Nat.le_of_ble_eq_true rfl⟩) (by decide) rfl rfl rfl rfl (Nat.le_of_ble_eq_true rfl) dX7_claim_40 (fun M40 q40 => ?_)
          obtain ⟨f40, w40⟩ := q40
          have hS2 : ztab M40 1 S := ztab_fr hS f40 (by decide) (by decide)
          have hr2 : M40 (1 + 2) s0 = zo (S (18 + s0)) := hS2.2 s0 hs0
          refine zz_aload_n (pc := 43) E dX7_claim_43 rfl ?_
          refine zz_gf (pc := 44) E 0 (by decide) rfl rfl inX7_claim_X7 0 (by decide) lkX7_claim_12 (fun _ h => h) rfl dX7_claim_44 ?_
          refine zz_iload_n (pc := 47) E dX7_claim_47 rfl ?_
          refine zz_eqi (y := nI s0) hxs ?_
          refine zz_ciV (pc := 48) E 1 (kkX6_claimOf l G hJ _ _ zz_T1 s0 hs0) (cwV 1 hts gX7_claim_X6_claimOf rfl rfl rfl (by decide +kernel) ⟨Nat.le_of_ble_eq_true rfl, Nat.le_of_ble_eq_true rfl⟩) (by decide) rfl rfl rfl rfl (Nat.le_of_ble_eq_true rfl) dX7_claim_48 (fun r48 M48 q48 => ?_)
          obtain ⟨rfl, rfl⟩ := q48
          refine zz_eqi (y := zo (S (18 + s0))) hr2 ?_
          refine zz_istore_n (pc := 51) (lv' := [(0, _), (1, _), (2, _), (3, _)]) E dX7_claim_51 (by decide) rfl ?_
          refine zz_aload_n (pc := 52) E dX7_claim_52 rfl ?_
          refine zz_gf (pc := 53) E 0 (by decide) rfl rfl inX7_claim_X7 0 (by decide) lkX7_claim_12 (fun _ h => h) rfl dX7_claim_53 ?_
          refine zz_iload_n (pc := 56) E dX7_claim_56 rfl ?_
          refine zz_eqi (y := nI s0) hxs ?_
          refine zz_iload_n (pc := 57) E dX7_claim_57 rfl ?_
          refine zz_cvV (pc := 58) E 1 (kkX6_setClaim l G hJ _ _ zz_T1 s0 _ hs0) (cwV 2 hts gX7_claim_X6_setClaim rfl rfl rfl (by decide +kernel) ⟨Nat.le_of_ble_eq_true rfl, Nat.le_of_ble_eq_true rfl⟩) (by decide) rfl rfl rfl rfl (Nat.le_of_ble_eq_true rfl) dX7_claim_58 (fun M58 q58 => ?_)
          obtain rfl := q58
          refine zz_iload_n (pc := 61) E dX7_claim_61 rfl ?_
          exact zz_iret (pc := 62) E hr hlk dX7_claim_62 ⟨zlo_up (zfr_lo f40 zKP_lo) (by decide), by rw [hsp], by rw [hsp]; exact ⟨zV_clm hV hs0 (fun a ha => ⟨(zin_ok hz1 (by decide) ha).1, zin_ne hzz ha⟩), zkp_V hV hh, ztab_clm hS2 hs0 (zo_zin hz1 (by decide)), _, zpast_fr (ks := [3]) w40 (zfr_up (zfr_rf _ _) (by simp)) (by decide)⟩⟩
        · have hsp : sp_claim S hs x z = (-2, S, hs) := by unfold sp_claim; rw [if_pos h4, if_neg (by unfold zclm; rw [decide_eq_false h12, hxn, h26]; simp)]
          refine zz_bipush (pc := 29) (v := -2) E dX7_claim_29 (by decide) ?_
          exact zz_iret (pc := 31) E hr hlk dX7_claim_31 ⟨zI_lo_rf _, by rw [hsp], by rw [hsp]; exact hI⟩
  · have hsp : sp_claim S hs x z = (-1, S, hs) := by unfold sp_claim; rw [if_neg (by rw [h4]; simp)]
    refine zz_iconst (pc := 7) (v := -1) E dX7_claim_7 (by decide) ?_
    exact zz_iret (pc := 8) E hr hlk dX7_claim_8 ⟨zI_lo_rf _, by rw [hsp], by rw [hsp]; exact hI⟩

theorem inX7_ofClaim_X7 : ∀ w ∈ u_ws RX7 TX7 8, w ∈ wsX7_ofClaim := by decide +kernel
theorem lkX7_ofClaim_12 : Cond.fieldLink RX7 12 RX7 "table" "LFirstSigns$Table;" ∈ wsX7_ofClaim := by decide +kernel
set_option maxHeartbeats 4000000 in
set_option maxRecDepth 100000 in
theorem kkX7_ofClaim (l : Launch) (G : zz_C) (hJ : zz_J G) (M : zz_M) (S : Nat → Option Nat) (hs : List (Nat → Option Nat)) (x : Int32) (hI : zI M S hs) : Met l yX7_ofClaim wsX7_ofClaim ({ frames := 2, cells := 0, slots := 0, locals := 41 } : Room) (zz_P G M [.ref (G.2.2 0), .int x]) (zz_Qi G (fun r M1 => zlo M M1 ∧ zI M1 S hs ∧ r = sp_ofClaim S x)) 0 0 (zz_A G) := by
  refine zz_start hJ (by decide) rfl (Nat.le_of_ble_eq_true rfl) ?_
  intro p e s m below meth c E hr hlk
  have hts := E.2.2.2.2.1
  show zz_Z p l e (headSpec wsX7_ofClaim ({ frames := 2, cells := 0, slots := 0, locals := 41 } : Room)).room s m ([.ref (G.2.2 0), .int x] : List Value).toArray below meth c 0 0 (MQ below (zz_Qi G (fun r M1 => zlo M M1 ∧ zI M1 S hs ∧ r = sp_ofClaim S x)) ([.ref (G.2.2 0), .int x] : List Value).toArray s 0 0 (zz_A G)) 2 G (zz_A G) M 0 [(0, .ref (G.2.2 0)), (1, .int x)] []
  refine zz_iload_n (pc := 0) E dX7_ofClaim_0 rfl ?_
  refine zz_ciS (pc := 1) E (kkX7_isSign l G hJ _ _ ) (va_cwS 1 hts gX7_ofClaim_X7_isSign rfl rfl rfl (by decide +kernel) ⟨Nat.le_of_ble_eq_true rfl, Nat.le_of_ble_eq_true rfl⟩) rfl rfl (Nat.le_of_ble_eq_true rfl) dX7_ofClaim_1 (fun r1 M1 q1 => ?_)
  obtain ⟨rfl, rfl⟩ := q1
  refine zb_if_eq (pc := 4) (tgt := 18) E dX7_ofClaim_4 (by decide) (fun h4 => ?_) (fun h4 => ?_)
  · have hsp : sp_ofClaim S x = -1 := by unfold sp_ofClaim; rw [if_neg (by rw [h4]; simp)]
    refine zz_iconst (pc := 18) (v := -1) E dX7_ofClaim_18 (by decide) ?_
    exact zz_iret (pc := 19) E hr hlk dX7_ofClaim_19 ⟨zI_lo_rf _, hI, by rw [hsp]⟩
  · obtain ⟨s0, hs0, hxs⟩ := zp_in_of h4 (by decide)
    have hsp : sp_ofClaim S x = M (1 + 2) s0 := by unfold sp_ofClaim; rw [if_pos h4, hxs, nI_nat (by omega)]; exact (hI.2.2.1.2 _ hs0).symm
    refine zz_aload_n (pc := 7) E dX7_ofClaim_7 rfl ?_
    refine zz_gf (pc := 8) E 0 (by decide) rfl rfl inX7_ofClaim_X7 0 (by decide) lkX7_ofClaim_12 (fun _ h => h) rfl dX7_ofClaim_8 ?_
    refine zz_iload_n (pc := 11) E dX7_ofClaim_11 rfl ?_
    refine zz_eqi (y := nI s0) hxs ?_
    refine zz_ciV (pc := 12) E 1 (kkX6_claimOf l G hJ _ _ zz_T1 s0 hs0) (cwV 1 hts gX7_ofClaim_X6_claimOf rfl rfl rfl (by decide +kernel) ⟨Nat.le_of_ble_eq_true rfl, Nat.le_of_ble_eq_true rfl⟩) (by decide) rfl rfl rfl rfl (Nat.le_of_ble_eq_true rfl) dX7_ofClaim_12 (fun r12 M12 q12 => ?_)
    obtain ⟨rfl, rfl⟩ := q12
    refine zz_goto (pc := 15) (tgt := 19) E dX7_ofClaim_15 (by decide) ?_
    exact zz_iret (pc := 19) E hr hlk dX7_ofClaim_19 ⟨zI_lo_rf _, hI, by rw [hsp]⟩

theorem inX7_reduced_X7 : ∀ w ∈ u_ws RX7 TX7 8, w ∈ wsX7_reduced := by decide +kernel
theorem lkX7_reduced_49 : Cond.fieldLink RX7 49 RX7 "forms" "LFirstSigns$Forms;" ∈ wsX7_reduced := by decide +kernel
theorem lkX7_reduced_12 : Cond.fieldLink RX7 12 RX7 "table" "LFirstSigns$Table;" ∈ wsX7_reduced := by decide +kernel
theorem lkX7_reduced_58 : Cond.fieldLink RX7 58 RX7 "one" "LFirstSigns$Row;" ∈ wsX7_reduced := by decide +kernel
set_option maxHeartbeats 4000000 in
set_option maxRecDepth 100000 in
theorem kkX7_reduced (l : Launch) (G : zz_C) (hJ : zz_J G) (M : zz_M) (S : Nat → Option Nat) (hs : List (Nat → Option Nat)) (x k : Int32) (hI : zI M S hs) : Met l yX7_reduced wsX7_reduced ({ frames := 4, cells := 0, slots := 0, locals := 129 } : Room) (zz_P G M [.ref (G.2.2 0), .int x, .int k]) (zz_Qi G (fun r M1 => zlo M M1 ∧ zI M1 S hs ∧ r = sp_reduced S x k)) 0 0 (zz_A G) := by
  refine zz_start hJ (by decide) rfl (Nat.le_of_ble_eq_true rfl) ?_
  intro p e s m below meth c E hr hlk
  have hts := E.2.2.2.2.1
  show zz_Z p l e (headSpec wsX7_reduced ({ frames := 4, cells := 0, slots := 0, locals := 129 } : Room)).room s m ([.ref (G.2.2 0), .int x, .int k] : List Value).toArray below meth c 0 0 (MQ below (zz_Qi G (fun r M1 => zlo M M1 ∧ zI M1 S hs ∧ r = sp_reduced S x k)) ([.ref (G.2.2 0), .int x, .int k] : List Value).toArray s 0 0 (zz_A G)) 3 G (zz_A G) M 0 [(0, .ref (G.2.2 0)), (1, .int x), (2, .int k)] []
  refine zz_iload_n (pc := 0) E dX7_reduced_0 rfl ?_
  refine zz_ciS (pc := 1) E (kkX7_isRowOfSigns l G hJ _ _ ) (va_cwS 1 hts gX7_reduced_X7_isRowOfSigns rfl rfl rfl (by decide +kernel) ⟨Nat.le_of_ble_eq_true rfl, Nat.le_of_ble_eq_true rfl⟩) rfl rfl (Nat.le_of_ble_eq_true rfl) dX7_reduced_1 (fun r1 M1 q1 => ?_)
  obtain ⟨rfl, rfl⟩ := q1
  refine zb_if_eq (pc := 4) (tgt := 12) E dX7_reduced_4 (by decide) (fun h4 => ?_) (fun h4 => ?_)
  · have hsp : sp_reduced S x k = -2 := by unfold sp_reduced; rw [if_neg (by rw [h4]; simp)]
    refine zz_bipush (pc := 12) (v := -2) E dX7_reduced_12 (by decide) ?_
    exact zz_iret (pc := 14) E hr hlk dX7_reduced_14 ⟨zI_lo_rf _, hI, by rw [hsp]⟩
  · refine zz_iload_n (pc := 7) E dX7_reduced_7 rfl ?_
    refine zz_iconst (pc := 8) (v := -1) E dX7_reduced_8 (by decide) ?_
    refine zz_icmp_ge (pc := 9) (tgt := 15) E dX7_reduced_9 (by decide) (fun h9 => ?_) (fun h9 => ?_)
    · obtain ⟨a, hxa, hza, han, ha9, ha31⟩ := zs_row_of h4 (by decide)
      have hsp : sp_reduced S x k = zkth (zred S (zr a)) k := by unfold sp_reduced; rw [if_pos (by rw [h4, decide_eq_true h9]; rfl), ← han]
      have hla := zred_len hI.1 (zr_lt hza)
      rw [zr_len] at hla
      have hna := zok_len hza
      refine zz_aload_n (pc := 15) E dX7_reduced_15 rfl ?_
      refine zz_gf (pc := 16) E 0 (by decide) rfl rfl inX7_reduced_X7 5 (by decide) lkX7_reduced_49 (fun _ h => h) rfl dX7_reduced_16 ?_
      refine zz_aload_n (pc := 19) E dX7_reduced_19 rfl ?_
      refine zz_gf (pc := 20) E 0 (by decide) rfl rfl inX7_reduced_X7 0 (by decide) lkX7_reduced_12 (fun _ h => h) rfl dX7_reduced_20 ?_
      refine zz_cvV (pc := 23) E 22 (kkX1_find l G hJ _  S hI.1 hI.2.2.1) (cwV 1 hts gX7_reduced_X1_find rfl rfl rfl (by decide +kernel) ⟨Nat.le_of_ble_eq_true rfl, Nat.le_of_ble_eq_true rfl⟩) (by decide) rfl rfl rfl rfl (Nat.le_of_ble_eq_true rfl) dX7_reduced_23 (fun M23 q23 => ?_)
      obtain ⟨f23, w23⟩ := q23
      refine zz_aload_n (pc := 26) E dX7_reduced_26 rfl ?_
      refine zz_gf (pc := 27) E 0 (by decide) rfl rfl inX7_reduced_X7 6 (by decide) lkX7_reduced_58 (fun _ h => h) rfl dX7_reduced_27 ?_
      refine zz_cvV (pc := 30) E 36 (kkX5_clear l G hJ _ _ _ zz_R36) (cwV 0 hts gX7_reduced_X5_clear rfl rfl rfl (by decide +kernel) ⟨Nat.le_of_ble_eq_true rfl, Nat.le_of_ble_eq_true rfl⟩) (by decide) rfl rfl rfl rfl (Nat.le_of_ble_eq_true rfl) dX7_reduced_30 (fun M30 q30 => ?_)
      obtain ⟨f30, w30⟩ := q30
      refine zz_aload_n (pc := 33) E dX7_reduced_33 rfl ?_
      refine zz_gf (pc := 34) E 0 (by decide) rfl rfl inX7_reduced_X7 5 (by decide) lkX7_reduced_49 (fun _ h => h) rfl dX7_reduced_34 ?_
      refine zz_aload_n (pc := 37) E dX7_reduced_37 rfl ?_
      refine zz_gf (pc := 38) E 0 (by decide) rfl rfl inX7_reduced_X7 6 (by decide) lkX7_reduced_58 (fun _ h => h) rfl dX7_reduced_38 ?_
      refine zz_iload_n (pc := 41) E dX7_reduced_41 rfl ?_
      refine zz_eqi (y := nI a) hxa ?_
      refine zz_cvV (pc := 42) E 22 (kkX1_putAhead l G hJ _  36 2187 zz_R36 (zfm S) a 9 [] hza (by decide) w30 (fun x hx => zrow_fr (w23 x (zr_lt hza x hx)) f30 (by have := zr_lt hza x hx; simp; omega) (by have := zr_lt hza x hx; simp; omega)) (fun x hx => by have := zr_lt hza x hx; omega) (by show (zred S (zr a)).length + 0 ≤ 2187; omega)) (cwV 2 hts gX7_reduced_X1_putAhead rfl rfl rfl (by decide +kernel) ⟨Nat.le_of_ble_eq_true rfl, Nat.le_of_ble_eq_true rfl⟩) (by decide) rfl rfl rfl rfl (Nat.le_of_ble_eq_true rfl) dX7_reduced_42 (fun M42 q42 => ?_)
      obtain ⟨f42, w42⟩ := q42
      have hf := zfr_ct (zfr_ct f23 f30 (ks := zKR) (by simp) (by simp)) f42 (ks := zKR) (fun _ h => h) (by simp)
      rw [List.append_nil] at w42
      have w42 : zrow M42 36 2187 (zred S (zr a)) := w42
      refine zz_iload_n (pc := 45) E dX7_reduced_45 rfl ?_
      refine zz_iconst (pc := 46) (v := -1) E dX7_reduced_46 (by decide) ?_
      refine zz_icmp_ne (pc := 47) (tgt := 60) E dX7_reduced_47 (by decide) (fun h47 => ?_) (fun h47 => ?_)
      · obtain ⟨i, hi31, hki⟩ := zcl_neg h9 h47
        have hk : zkth (zred S (zr a)) k = zo ((zred S (zr a))[i]?) := by unfold zkth; rw [if_neg h47, hki, nI_nat hi31]
        refine zz_aload_n (pc := 60) E dX7_reduced_60 rfl ?_
        refine zz_gf (pc := 61) E 0 (by decide) rfl rfl inX7_reduced_X7 6 (by decide) lkX7_reduced_58 (fun _ h => h) rfl dX7_reduced_61 ?_
        refine zz_iload_n (pc := 64) E dX7_reduced_64 rfl ?_
        refine zz_eqi (y := nI i) hki ?_
        refine zz_ciV (pc := 65) E 36 (kkX5_fromFirst l G hJ _ _ _ zz_R36 i _ w42 hi31) (cwV 1 hts gX7_reduced_X5_fromFirst rfl rfl rfl (by decide +kernel) ⟨Nat.le_of_ble_eq_true rfl, Nat.le_of_ble_eq_true rfl⟩) (by decide) rfl rfl rfl rfl (Nat.le_of_ble_eq_true rfl) dX7_reduced_65 (fun r65 M65 q65 => ?_)
        obtain ⟨rfl, rfl⟩ := q65
        exact zz_iret (pc := 68) E hr hlk dX7_reduced_68 ⟨zfr_lo hf (by decide), zI_fr hI hf (by decide), by rw [hsp, hk]⟩
      · have hk : zkth (zred S (zr a)) k = nI (zred S (zr a)).length := if_pos h47
        refine zz_aload_n (pc := 50) E dX7_reduced_50 rfl ?_
        refine zz_gf (pc := 51) E 0 (by decide) rfl rfl inX7_reduced_X7 6 (by decide) lkX7_reduced_58 (fun _ h => h) rfl dX7_reduced_51 ?_
        refine zz_ciV (pc := 54) E 36 (kkX5_size l G hJ _ _ _ zz_R36) (cwV 0 hts gX7_reduced_X5_size rfl rfl rfl (by decide +kernel) ⟨Nat.le_of_ble_eq_true rfl, Nat.le_of_ble_eq_true rfl⟩) (by decide) rfl rfl rfl rfl (Nat.le_of_ble_eq_true rfl) dX7_reduced_54 (fun r54 M54 q54 => ?_)
        obtain ⟨rfl, rfl⟩ := q54
        refine zz_eqi (y := nI (zred S (zr a)).length) w42.1 ?_
        refine zz_goto (pc := 57) (tgt := 68) E dX7_reduced_57 (by decide) ?_
        exact zz_iret (pc := 68) E hr hlk dX7_reduced_68 ⟨zfr_lo hf (by decide), zI_fr hI hf (by decide), by rw [hsp, hk]⟩
    · have hsp : sp_reduced S x k = -2 := by unfold sp_reduced; rw [if_neg (by rw [decide_eq_false h9]; simp)]
      refine zz_bipush (pc := 12) (v := -2) E dX7_reduced_12 (by decide) ?_
      exact zz_iret (pc := 14) E hr hlk dX7_reduced_14 ⟨zI_lo_rf _, hI, by rw [hsp]⟩

theorem inX7_alike_X7 : ∀ w ∈ u_ws RX7 TX7 8, w ∈ wsX7_alike := by decide +kernel
theorem lkX7_alike_58 : Cond.fieldLink RX7 58 RX7 "one" "LFirstSigns$Row;" ∈ wsX7_alike := by decide +kernel
theorem lkX7_alike_62 : Cond.fieldLink RX7 62 RX7 "two" "LFirstSigns$Row;" ∈ wsX7_alike := by decide +kernel
set_option maxHeartbeats 4000000 in
set_option maxRecDepth 100000 in
theorem kkX7_alike (l : Launch) (G : zz_C) (hJ : zz_J G) (M : zz_M) (S : Nat → Option Nat) (hs : List (Nat → Option Nat)) (x y : Int32) (hI : zI M S hs) : Met l yX7_alike wsX7_alike ({ frames := 5, cells := 0, slots := 0, locals := 151 } : Room) (zz_P G M [.ref (G.2.2 0), .int x, .int y]) (zz_Qi G (fun r M1 => zlo M M1 ∧ zI M1 S hs ∧ r = sp_alike S x y)) 0 0 (zz_A G) := by
  refine zz_start hJ (by decide) rfl (Nat.le_of_ble_eq_true rfl) ?_
  intro p e s m below meth c E hr hlk
  have hts := E.2.2.2.2.1
  show zz_Z p l e (headSpec wsX7_alike ({ frames := 5, cells := 0, slots := 0, locals := 151 } : Room)).room s m ([.ref (G.2.2 0), .int x, .int y] : List Value).toArray below meth c 0 0 (MQ below (zz_Qi G (fun r M1 => zlo M M1 ∧ zI M1 S hs ∧ r = sp_alike S x y)) ([.ref (G.2.2 0), .int x, .int y] : List Value).toArray s 0 0 (zz_A G)) 3 G (zz_A G) M 0 [(0, .ref (G.2.2 0)), (1, .int x), (2, .int y)] []
  refine zz_iload_n (pc := 0) E dX7_alike_0 rfl ?_
  refine zz_ciS (pc := 1) E (kkX7_isRowOfSigns l G hJ _ _ ) (va_cwS 1 hts gX7_alike_X7_isRowOfSigns rfl rfl rfl (by decide +kernel) ⟨Nat.le_of_ble_eq_true rfl, Nat.le_of_ble_eq_true rfl⟩) rfl rfl (Nat.le_of_ble_eq_true rfl) dX7_alike_1 (fun r1 M1 q1 => ?_)
  obtain ⟨rfl, rfl⟩ := q1
  refine zb_if_eq (pc := 4) (tgt := 14) E dX7_alike_4 (by decide) (fun h4 => ?_) (fun h4 => ?_)
  · have hsp : sp_alike S x y = -2 := by unfold sp_alike; rw [if_neg (by rw [h4]; simp)]
    refine zz_bipush (pc := 14) (v := -2) E dX7_alike_14 (by decide) ?_
    exact zz_iret (pc := 16) E hr hlk dX7_alike_16 ⟨zI_lo_rf _, hI, by rw [hsp]⟩
  · refine zz_iload_n (pc := 7) E dX7_alike_7 rfl ?_
    refine zz_ciS (pc := 8) E (kkX7_isRowOfSigns l G hJ _ _ ) (va_cwS 1 hts gX7_alike_X7_isRowOfSigns rfl rfl rfl (by decide +kernel) ⟨Nat.le_of_ble_eq_true rfl, Nat.le_of_ble_eq_true rfl⟩) rfl rfl (Nat.le_of_ble_eq_true rfl) dX7_alike_8 (fun r8 M8 q8 => ?_)
    obtain ⟨rfl, rfl⟩ := q8
    refine zb_if_ne (pc := 11) (tgt := 17) E dX7_alike_11 (by decide) (fun h11 => ?_) (fun h11 => ?_)
    · obtain ⟨a, hxa, hza, han, ha9, ha31⟩ := zs_row_of h4 (by decide)
      obtain ⟨b, hyb, hzb, hbn, hb9, hb31⟩ := zs_row_of h11 (by decide)
      have hsp : sp_alike S x y = zz_b (decide (zred S (zr a) = zred S (zr b))) := by unfold sp_alike; rw [if_pos (by rw [h4, h11]; rfl), ← han, ← hbn]
      refine zz_aload_n (pc := 17) E dX7_alike_17 rfl ?_
      refine zz_iload_n (pc := 18) E dX7_alike_18 rfl ?_
      refine zz_eqi (y := nI a) hxa ?_
      refine zz_iload_n (pc := 19) E dX7_alike_19 rfl ?_
      refine zz_eqi (y := nI b) hyb ?_
      refine zz_cvV (pc := 20) E 0 (kkX7_reduceBoth l G hJ _  S a b hI.1 hI.2.2.1 hza hzb) (cwV 2 hts gX7_alike_X7_reduceBoth rfl rfl rfl (by decide +kernel) ⟨Nat.le_of_ble_eq_true rfl, Nat.le_of_ble_eq_true rfl⟩) (by decide) rfl rfl rfl rfl (Nat.le_of_ble_eq_true rfl) dX7_alike_20 (fun M20 q20 => ?_)
      obtain ⟨f20, w20, v20⟩ := q20
      refine zz_aload_n (pc := 23) E dX7_alike_23 rfl ?_
      refine zz_gf (pc := 24) E 0 (by decide) rfl rfl inX7_alike_X7 6 (by decide) lkX7_alike_58 (fun _ h => h) rfl dX7_alike_24 ?_
      refine zz_aload_n (pc := 27) E dX7_alike_27 rfl ?_
      refine zz_gf (pc := 28) E 0 (by decide) rfl rfl inX7_alike_X7 7 (by decide) lkX7_alike_62 (fun _ h => h) rfl dX7_alike_28 ?_
      refine zz_ciV (pc := 31) E 36 (kkX5_isSame l G hJ _ _ _ zz_R36 _ _ zz_R38 _ _ w20 v20) (cwV 1 hts gX7_alike_X5_isSame rfl rfl rfl (by decide +kernel) ⟨Nat.le_of_ble_eq_true rfl, Nat.le_of_ble_eq_true rfl⟩) (by decide) rfl rfl rfl rfl (Nat.le_of_ble_eq_true rfl) dX7_alike_31 (fun r31 M31 q31 => ?_)
      obtain ⟨rfl, rfl⟩ := q31
      refine zb_if_eq (pc := 34) (tgt := 41) E dX7_alike_34 (by decide) (fun h34 => ?_) (fun h34 => ?_)
      · refine zz_iconst (pc := 41) (v := nI 0) E dX7_alike_41 (by decide) ?_
        exact zz_iret (pc := 42) E hr hlk dX7_alike_42 ⟨zfr_lo f20 (by decide), zI_fr hI f20 (by decide), by rw [hsp, h34]; rfl⟩
      · refine zz_iconst (pc := 37) (v := nI 1) E dX7_alike_37 (by decide) ?_
        refine zz_goto (pc := 38) (tgt := 42) E dX7_alike_38 (by decide) ?_
        exact zz_iret (pc := 42) E hr hlk dX7_alike_42 ⟨zfr_lo f20 (by decide), zI_fr hI f20 (by decide), by rw [hsp, h34]; rfl⟩
    · have hsp : sp_alike S x y = -2 := by unfold sp_alike; rw [if_neg (by rw [h11]; simp)]
      refine zz_bipush (pc := 14) (v := -2) E dX7_alike_14 (by decide) ?_
      exact zz_iret (pc := 16) E hr hlk dX7_alike_16 ⟨zI_lo_rf _, hI, by rw [hsp]⟩

theorem inX7_common_X7 : ∀ w ∈ u_ws RX7 TX7 8, w ∈ wsX7_common := by decide +kernel
theorem lkX7_common_58 : Cond.fieldLink RX7 58 RX7 "one" "LFirstSigns$Row;" ∈ wsX7_common := by decide +kernel
theorem lkX7_common_62 : Cond.fieldLink RX7 62 RX7 "two" "LFirstSigns$Row;" ∈ wsX7_common := by decide +kernel
set_option maxHeartbeats 4000000 in
set_option maxRecDepth 100000 in
theorem kkX7_common (l : Launch) (G : zz_C) (hJ : zz_J G) (M : zz_M) (S : Nat → Option Nat) (hs : List (Nat → Option Nat)) (x y z : Int32) (hI : zI M S hs) : Met l yX7_common wsX7_common ({ frames := 5, cells := 0, slots := 0, locals := 151 } : Room) (zz_P G M [.ref (G.2.2 0), .int x, .int y, .int z]) (zz_Qi G (fun r M1 => zlo M M1 ∧ zI M1 S hs ∧ r = sp_common S x y z)) 0 0 (zz_A G) := by
  refine zz_start hJ (by decide) rfl (Nat.le_of_ble_eq_true rfl) ?_
  intro p e s m below meth c E hr hlk
  have hts := E.2.2.2.2.1
  show zz_Z p l e (headSpec wsX7_common ({ frames := 5, cells := 0, slots := 0, locals := 151 } : Room)).room s m ([.ref (G.2.2 0), .int x, .int y, .int z] : List Value).toArray below meth c 0 0 (MQ below (zz_Qi G (fun r M1 => zlo M M1 ∧ zI M1 S hs ∧ r = sp_common S x y z)) ([.ref (G.2.2 0), .int x, .int y, .int z] : List Value).toArray s 0 0 (zz_A G)) 4 G (zz_A G) M 0 [(0, .ref (G.2.2 0)), (1, .int x), (2, .int y), (3, .int z)] []
  refine zz_iload_n (pc := 0) E dX7_common_0 rfl ?_
  refine zz_ciS (pc := 1) E (kkX7_isRowOfSigns l G hJ _ _ ) (va_cwS 1 hts gX7_common_X7_isRowOfSigns rfl rfl rfl (by decide +kernel) ⟨Nat.le_of_ble_eq_true rfl, Nat.le_of_ble_eq_true rfl⟩) rfl rfl (Nat.le_of_ble_eq_true rfl) dX7_common_1 (fun r1 M1 q1 => ?_)
  obtain ⟨rfl, rfl⟩ := q1
  refine zb_if_eq (pc := 4) (tgt := 23) E dX7_common_4 (by decide) (fun h4 => ?_) (fun h4 => ?_)
  · have hsp : sp_common S x y z = -2 := by unfold sp_common; rw [if_neg (by rw [h4]; simp)]
    refine zz_bipush (pc := 23) (v := -2) E dX7_common_23 (by decide) ?_
    exact zz_iret (pc := 25) E hr hlk dX7_common_25 ⟨zI_lo_rf _, hI, by rw [hsp]⟩
  · refine zz_iload_n (pc := 7) E dX7_common_7 rfl ?_
    refine zz_ciS (pc := 8) E (kkX7_isRowOfSigns l G hJ _ _ ) (va_cwS 1 hts gX7_common_X7_isRowOfSigns rfl rfl rfl (by decide +kernel) ⟨Nat.le_of_ble_eq_true rfl, Nat.le_of_ble_eq_true rfl⟩) rfl rfl (Nat.le_of_ble_eq_true rfl) dX7_common_8 (fun r8 M8 q8 => ?_)
    obtain ⟨rfl, rfl⟩ := q8
    refine zb_if_eq (pc := 11) (tgt := 23) E dX7_common_11 (by decide) (fun h11 => ?_) (fun h11 => ?_)
    · have hsp : sp_common S x y z = -2 := by unfold sp_common; rw [if_neg (by rw [h11]; simp)]
      refine zz_bipush (pc := 23) (v := -2) E dX7_common_23 (by decide) ?_
      exact zz_iret (pc := 25) E hr hlk dX7_common_25 ⟨zI_lo_rf _, hI, by rw [hsp]⟩
    · refine zz_iload_n (pc := 14) E dX7_common_14 rfl ?_
      refine zz_if_lt (pc := 15) (tgt := 23) E dX7_common_15 (by decide) (fun h15 => ?_) (fun h15 => ?_)
      · have hsp : sp_common S x y z = -2 := by unfold sp_common; rw [if_neg (by rw [zp_in_f1 h15]; simp)]
        refine zz_bipush (pc := 23) (v := -2) E dX7_common_23 (by decide) ?_
        exact zz_iret (pc := 25) E hr hlk dX7_common_25 ⟨zI_lo_rf _, hI, by rw [hsp]⟩
      · refine zz_iload_n (pc := 18) E dX7_common_18 rfl ?_
        refine zz_iconst (pc := 19) (v := nI 1) E dX7_common_19 (by decide) ?_
        refine zz_icmp_le (pc := 20) (tgt := 26) E dX7_common_20 (by decide) (fun h20 => ?_) (fun h20 => ?_)
        · obtain ⟨a, hxa, hza, han, ha9, ha31⟩ := zs_row_of h4 (by decide)
          obtain ⟨b, hyb, hzb, hbn, hb9, hb31⟩ := zs_row_of h11 (by decide)
          have hw4 := zp_w3t h15 h20
          obtain ⟨u, hu, hzu⟩ := zp_in_of hw4 (by decide)
          have hsp : sp_common S x y z = if u = 0 then nI (zcp (zred S (zr a)) (zred S (zr b))) else nI (zcp (zred S (zr a)).reverse (zred S (zr b)).reverse) := by unfold sp_common; rw [if_pos (by rw [h4, h11, hw4]; rfl), ← han, ← hbn, hzu, nI_nat (by omega)]
          refine zz_aload_n (pc := 26) E dX7_common_26 rfl ?_
          refine zz_iload_n (pc := 27) E dX7_common_27 rfl ?_
          refine zz_eqi (y := nI a) hxa ?_
          refine zz_iload_n (pc := 28) E dX7_common_28 rfl ?_
          refine zz_eqi (y := nI b) hyb ?_
          refine zz_cvV (pc := 29) E 0 (kkX7_reduceBoth l G hJ _  S a b hI.1 hI.2.2.1 hza hzb) (cwV 2 hts gX7_common_X7_reduceBoth rfl rfl rfl (by decide +kernel) ⟨Nat.le_of_ble_eq_true rfl, Nat.le_of_ble_eq_true rfl⟩) (by decide) rfl rfl rfl rfl (Nat.le_of_ble_eq_true rfl) dX7_common_29 (fun M29 q29 => ?_)
          obtain ⟨f29, w29, v29⟩ := q29
          refine zz_iload_n (pc := 32) E dX7_common_32 rfl ?_
          refine zz_eqi (y := nI u) hzu ?_
          refine zn_if_ne (pc := 33) (tgt := 50) E dX7_common_33 (by decide) (by omega) (fun h33 => ?_) (fun h33 => ?_)
          · rw [if_neg h33] at hsp
            refine zz_aload_n (pc := 50) E dX7_common_50 rfl ?_
            refine zz_gf (pc := 51) E 0 (by decide) rfl rfl inX7_common_X7 6 (by decide) lkX7_common_58 (fun _ h => h) rfl dX7_common_51 ?_
            refine zz_aload_n (pc := 54) E dX7_common_54 rfl ?_
            refine zz_gf (pc := 55) E 0 (by decide) rfl rfl inX7_common_X7 7 (by decide) lkX7_common_62 (fun _ h => h) rfl dX7_common_55 ?_
            refine zz_ciV (pc := 58) E 36 (kkX5_sameFromLast l G hJ _ _ _ zz_R36 _ _ zz_R38 _ _ w29 v29) (cwV 1 hts gX7_common_X5_sameFromLast rfl rfl rfl (by decide +kernel) ⟨Nat.le_of_ble_eq_true rfl, Nat.le_of_ble_eq_true rfl⟩) (by decide) rfl rfl rfl rfl (Nat.le_of_ble_eq_true rfl) dX7_common_58 (fun r58 M58 q58 => ?_)
            obtain ⟨rfl, rfl⟩ := q58
            exact zz_iret (pc := 61) E hr hlk dX7_common_61 ⟨zfr_lo f29 (by decide), zI_fr hI f29 (by decide), by rw [hsp]⟩
          · rw [if_pos h33] at hsp
            refine zz_aload_n (pc := 36) E dX7_common_36 rfl ?_
            refine zz_gf (pc := 37) E 0 (by decide) rfl rfl inX7_common_X7 6 (by decide) lkX7_common_58 (fun _ h => h) rfl dX7_common_37 ?_
            refine zz_aload_n (pc := 40) E dX7_common_40 rfl ?_
            refine zz_gf (pc := 41) E 0 (by decide) rfl rfl inX7_common_X7 7 (by decide) lkX7_common_62 (fun _ h => h) rfl dX7_common_41 ?_
            refine zz_ciV (pc := 44) E 36 (kkX5_sameFromFirst l G hJ _ _ _ zz_R36 _ _ zz_R38 _ _ w29 v29) (cwV 1 hts gX7_common_X5_sameFromFirst rfl rfl rfl (by decide +kernel) ⟨Nat.le_of_ble_eq_true rfl, Nat.le_of_ble_eq_true rfl⟩) (by decide) rfl rfl rfl rfl (Nat.le_of_ble_eq_true rfl) dX7_common_44 (fun r44 M44 q44 => ?_)
            obtain ⟨rfl, rfl⟩ := q44
            refine zz_goto (pc := 47) (tgt := 61) E dX7_common_47 (by decide) ?_
            exact zz_iret (pc := 61) E hr hlk dX7_common_61 ⟨zfr_lo f29 (by decide), zI_fr hI f29 (by decide), by rw [hsp]⟩
        · have hsp : sp_common S x y z = -2 := by unfold sp_common; rw [if_neg (by rw [zp_w3 h20]; simp)]
          refine zz_bipush (pc := 23) (v := -2) E dX7_common_23 (by decide) ?_
          exact zz_iret (pc := 25) E hr hlk dX7_common_25 ⟨zI_lo_rf _, hI, by rw [hsp]⟩
