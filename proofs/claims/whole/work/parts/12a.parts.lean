def zbs3 (n : Nat) : Nat := (3 ^ n - 1) / 2
theorem zlb_ro : ∀ n, n < 7 → ∀ v, v < 3 ^ n → zlb n v = zro (zbs3 n + v) 3 ∧ (zd (zlb n v)).length = n := by decide +kernel
theorem zbs3_next : ∀ n, n < 7 → zbs3 n + 3 ^ n = zbs3 (n + 1) ∧ zbs3 (n + 1) ≤ 1093 := by decide
theorem z3_lt : ∀ n, n < 8 → 3 ^ n < 10000 := by decide

theorem clX8_parts_97 : Cond.constantLong RX8 97 (-9223372036854775808) ∈ wsX8_parts := by decide +kernel
theorem clX8_parts_99 : Cond.constantLong RX8 99 (-9) ∈ wsX8_parts := by decide +kernel
set_option maxHeartbeats 4000000 in
set_option maxRecDepth 100000 in
theorem kkX8_parts (l : Launch) (G : zz_C) (hJ : zz_J G) (M : zz_M) (S : Nat → Option Nat) (hs : List (Nat → Option Nat)) (x y z : Int32) (hI : zJ M S hs) : Met l yX8_parts wsX8_parts ({ frames := 6, cells := 0, slots := 0, locals := 142 } : Room) (zz_P G M [.ref (G.2.2 100), .int x, .int y, .int z]) (zz_Ql G (fun r M1 => zhi M M1 ∧ zJ M1 S hs ∧ r = sp_parts S x y z)) 0 0 (zz_A G) := by
  refine zz_start hJ (by decide) rfl (Nat.le_of_ble_eq_true rfl) ?_
  intro p e s m below meth c E hr hlk
  have hts := E.2.2.2.2.1
  show zz_Z p l e (headSpec wsX8_parts ({ frames := 6, cells := 0, slots := 0, locals := 142 } : Room)).room s m ([.ref (G.2.2 100), .int x, .int y, .int z] : List Value).toArray below meth c 0 0 (MQ below (zz_Ql G (fun r M1 => zhi M M1 ∧ zJ M1 S hs ∧ r = sp_parts S x y z)) ([.ref (G.2.2 100), .int x, .int y, .int z] : List Value).toArray s 0 0 (zz_A G)) 9 G (zz_A G) M 0 [(0, .ref (G.2.2 100)), (1, .int x), (2, .int y), (3, .int z)] []
  refine zz_iload_n (pc := 0) E dX8_parts_0 rfl ?_
  refine zz_bipush (pc := 1) (v := nI 9) E dX8_parts_1 (by decide) ?_
  refine zz_ciS (pc := 3) E (kkX8_isRow l G hJ _ _ _ (by decide)) (va_cwS 2 hts gX8_parts_X8_isRow rfl rfl rfl (by decide +kernel) ⟨Nat.le_of_ble_eq_true rfl, Nat.le_of_ble_eq_true rfl⟩) rfl rfl (Nat.le_of_ble_eq_true rfl) dX8_parts_3 (fun r3 M3 q3 => ?_)
  obtain ⟨rfl, rfl⟩ := q3
  refine zb_if_eq (pc := 6) (tgt := 27) E dX8_parts_6 (by decide) (fun h6 => ?_) (fun h6 => ?_)
  · have hsp : sp_parts S x y z = -9223372036854775808 := by unfold sp_parts; rw [if_neg (by rw [h6]; simp)]
    refine zz_ldc2 (pc := 27) (v := (-9223372036854775808)) E clX8_parts_97 dX8_parts_27 ?_
    exact zz_lret (pc := 30) E hr hlk dX8_parts_30 ⟨zhi_rf _, hI, by rw [hsp]⟩
  · refine zz_iload_n (pc := 9) E dX8_parts_9 rfl ?_
    refine zz_bipush (pc := 10) (v := nI 9) E dX8_parts_10 (by decide) ?_
    refine zz_ciS (pc := 12) E (kkX8_isRow l G hJ _ _ _ (by decide)) (va_cwS 2 hts gX8_parts_X8_isRow rfl rfl rfl (by decide +kernel) ⟨Nat.le_of_ble_eq_true rfl, Nat.le_of_ble_eq_true rfl⟩) rfl rfl (Nat.le_of_ble_eq_true rfl) dX8_parts_12 (fun r12 M12 q12 => ?_)
    obtain ⟨rfl, rfl⟩ := q12
    refine zb_if_eq (pc := 15) (tgt := 27) E dX8_parts_15 (by decide) (fun h15 => ?_) (fun h15 => ?_)
    · have hsp : sp_parts S x y z = -9223372036854775808 := by unfold sp_parts; rw [if_neg (by rw [h15]; simp)]
      refine zz_ldc2 (pc := 27) (v := (-9223372036854775808)) E clX8_parts_97 dX8_parts_27 ?_
      exact zz_lret (pc := 30) E hr hlk dX8_parts_30 ⟨zhi_rf _, hI, by rw [hsp]⟩
    · refine zz_iload_n (pc := 18) E dX8_parts_18 rfl ?_
      refine zz_iconst (pc := 19) (v := nI 0) E dX8_parts_19 (by decide) ?_
      refine zz_iconst (pc := 20) (v := nI 1) E dX8_parts_20 (by decide) ?_
      refine zz_ciS (pc := 21) E (kkX8_within l G hJ _ _ _ _ ) (va_cwS 3 hts gX8_parts_X8_within rfl rfl rfl (by decide +kernel) ⟨Nat.le_of_ble_eq_true rfl, Nat.le_of_ble_eq_true rfl⟩) rfl rfl (Nat.le_of_ble_eq_true rfl) dX8_parts_21 (fun r21 M21 q21 => ?_)
      obtain ⟨rfl, rfl⟩ := q21
      refine zb_if_ne (pc := 24) (tgt := 31) E dX8_parts_24 (by decide) (fun h24 => ?_) (fun h24 => ?_)
      · rw [zp_w_0 (by decide)] at h24
        obtain ⟨a, hxa, hza, han, ha9, ha31⟩ := zs_row_of h6 (by decide)
        obtain ⟨b, hyb, hzb, hbn, hb9, hb31⟩ := zs_row_of h15 (by decide)
        obtain ⟨u, hu, hzu⟩ := zp_in_of h24 (by decide)
        have hsp : sp_parts S x y z = match zfs (zpt S a b u) 0 1093 with | none => -9 | some p => lN (zro p 3) := by
          unfold sp_parts
          rw [if_pos (by rw [h6, h15, h24]; rfl), ← han, ← hbn, hzu, nI_nat (by omega)]
          rfl
        refine zz_iconst (pc := 31) (v := nI 1) E dX8_parts_31 (by decide) ?_
        refine zz_istore (pc := 32) (lv' := [(0, _), (1, _), (2, _), (3, _), (4, _)]) E dX8_parts_32 (by decide) rfl ?_
        refine zz_iconst (pc := 34) (v := nI 0) E dX8_parts_34 (by decide) ?_
        refine zz_istore (pc := 35) (lv' := [(0, _), (1, _), (2, _), (3, _), (4, _), (5, _)]) E dX8_parts_35 (by decide) rfl ?_
        have key : ∀ (j n : Nat) (M2 : zz_M), n + j = 7 → zmf [103] M M2 → zfs (zpt S a b u) 0 1093 = zfs (zpt S a b u) (zbs3 n) (1093 - zbs3 n) → zz_Z p l e (headSpec wsX8_parts ({ frames := 6, cells := 0, slots := 0, locals := 142 } : Room)).room s m ([.ref (G.2.2 100), .int x, .int y, .int z] : List Value).toArray below meth c 0 0 (MQ below (zz_Ql G (fun r M1 => zhi M M1 ∧ zJ M1 S hs ∧ r = sp_parts S x y z)) ([.ref (G.2.2 100), .int x, .int y, .int z] : List Value).toArray s 0 0 (zz_A G)) 9 G (zz_A G) M2 37 [(0, .ref (G.2.2 100)), (1, .int x), (2, .int y), (3, .int z), (4, .int (nI (3 ^ n))), (5, .int (nI n))] [] := by
          intro j
          induction j with
          | zero =>
            intro n M2 hn hf he
            refine zz_iload (pc := 37) E dX8_parts_37 rfl ?_
            refine zz_bipush (pc := 39) (v := nI 6) E dX8_parts_39 (by decide) ?_
            refine zn_icmp_gt (pc := 41) (tgt := 107) E dX8_parts_41 (by decide) (by omega) (by omega) (fun h41 => ?_) (fun h41 => ?_)
            · refine zz_ldc2 (pc := 107) (v := (-9)) E clX8_parts_99 dX8_parts_107 ?_
              exact zz_lret (pc := 110) E hr hlk dX8_parts_110 ⟨zmf_hi hf (by decide), zJ_mf hI hf (by decide) (by decide), by rw [hsp, he, show n = 7 by omega]; rfl⟩
            · exact absurd h41 (by omega)
          | succ j ih =>
            intro n M2 hn hf he
            have hp3 := z3_lt n (by omega)
            obtain ⟨hb1, hb2⟩ := zbs3_next n (by omega)
            refine zz_iload (pc := 37) E dX8_parts_37 rfl ?_
            refine zz_bipush (pc := 39) (v := nI 6) E dX8_parts_39 (by decide) ?_
            refine zn_icmp_gt (pc := 41) (tgt := 107) E dX8_parts_41 (by decide) (by omega) (by omega) (fun h41 => ?_) (fun h41 => ?_)
            · exact absurd h41 (by omega)
            · refine zz_iconst (pc := 44) (v := nI 0) E dX8_parts_44 (by decide) ?_
              refine zz_istore (pc := 45) (lv' := [(0, _), (1, _), (2, _), (3, _), (4, _), (5, _), (6, _)]) E dX8_parts_45 (by decide) rfl ?_
              have key2 : ∀ (j2 i : Nat) (M3 : zz_M), i + j2 = 3 ^ n → zmf [103] M M3 → zfs (zpt S a b u) 0 1093 = zfs (zpt S a b u) (zbs3 n + i) (1093 - (zbs3 n + i)) → zz_Z p l e (headSpec wsX8_parts ({ frames := 6, cells := 0, slots := 0, locals := 142 } : Room)).room s m ([.ref (G.2.2 100), .int x, .int y, .int z] : List Value).toArray below meth c 0 0 (MQ below (zz_Ql G (fun r M1 => zhi M M1 ∧ zJ M1 S hs ∧ r = sp_parts S x y z)) ([.ref (G.2.2 100), .int x, .int y, .int z] : List Value).toArray s 0 0 (zz_A G)) 9 G (zz_A G) M3 47 [(0, .ref (G.2.2 100)), (1, .int x), (2, .int y), (3, .int z), (4, .int (nI (3 ^ n))), (5, .int (nI n)), (6, .int (nI i))] [] := by
                intro j2
                induction j2 with
                | zero =>
                  intro i M3 hi hf3 he3
                  refine zz_iload (pc := 47) E dX8_parts_47 rfl ?_
                  refine zz_iload (pc := 49) E dX8_parts_49 rfl ?_
                  refine zn_icmp_ge (pc := 51) (tgt := 95) E dX8_parts_51 (by decide) (by omega) (by omega) (fun h51 => ?_) (fun h51 => ?_)
                  · refine zz_iload (pc := 95) E dX8_parts_95 rfl ?_
                    refine zz_iconst (pc := 97) (v := nI 3) E dX8_parts_97 (by decide) ?_
                    refine zn_imul (pc := 98) E dX8_parts_98 ?_
                    refine zz_istore (pc := 99) (lv' := [(0, _), (1, _), (2, _), (3, _), (4, _), (5, _), (6, _)]) E dX8_parts_99 (by decide) rfl ?_
                    refine zn_inc (pc := 101) (lv' := [(0, _), (1, _), (2, _), (3, _), (4, _), (5, _), (6, _)]) E dX8_parts_101 rfl (by decide) rfl ?_
                    refine zz_goto (pc := 104) (tgt := 37) E dX8_parts_104 (by decide) ?_
                    exact zz_to (ih (n + 1) M3 (by omega) hf3 (by rw [he3, show zbs3 n + i = zbs3 (n + 1) by omega])) ⟨rfl, rfl, rfl, rfl, by rw [Nat.pow_succ]; rfl, rfl, trivial⟩
                  · exact absurd h51 (by omega)
                | succ j2 ih2 =>
                  intro i M3 hi hf3 he3
                  obtain ⟨hl1, hl2⟩ := zlb_ro n (by omega) i (by omega)
                  have hS3 := ztl_mf hI.2.2.1 hf3 (by decide)
                  have hd0 := zro_ok (zbs3 n + i) (by omega)
                  rw [← hl1] at hd0
                  have hd := zok_mono hd0 (Nat.le_refl 3) (show 6 ≤ 12 by decide)
                  rw [show 1093 - (zbs3 n + i) = (1093 - (zbs3 n + i + 1)) + 1 by omega, zfs_step (n := 1093 - (zbs3 n + i + 1)) (i := zbs3 n + i)] at he3
                  have hpt : zpt S a b u (zbs3 n + i) = !(zgo S (zr a) (zr (zlb n i)) u == zgo S (zr b) (zr (zlb n i)) u) := by unfold zpt; rw [hl1]
                  have hnn : nI n = nI (zd (zlb n i)).length := by rw [hl2]
                  refine zz_iload (pc := 47) E dX8_parts_47 rfl ?_
                  refine zz_iload (pc := 49) E dX8_parts_49 rfl ?_
                  refine zn_icmp_ge (pc := 51) (tgt := 95) E dX8_parts_51 (by decide) (by omega) (by omega) (fun h51 => ?_) (fun h51 => ?_)
                  · exact absurd h51 (by omega)
                  · refine zz_iload (pc := 54) E dX8_parts_54 rfl ?_
                    refine zz_iload (pc := 56) E dX8_parts_56 rfl ?_
                    refine zz_clS (pc := 58) E (kkX8_lettersBy l G hJ _ _ _ (by omega) (by omega)) (va_cwS 2 hts gX8_parts_X8_lettersBy rfl rfl rfl (by decide +kernel) ⟨Nat.le_of_ble_eq_true rfl, Nat.le_of_ble_eq_true rfl⟩) rfl rfl (Nat.le_of_ble_eq_true rfl) dX8_parts_58 (fun r58 M58 q58 => ?_)
                    obtain ⟨rfl, rfl⟩ := q58
                    refine zz_lstore (pc := 61) (lv' := [(0, _), (1, _), (2, _), (3, _), (4, _), (5, _), (6, _), (7, _)]) E dX8_parts_61 (by decide) rfl ?_
                    refine zz_aload_n (pc := 63) E dX8_parts_63 rfl ?_
                    refine zz_iload_n (pc := 64) E dX8_parts_64 rfl ?_
                    refine zz_eqi (y := nI a) hxa ?_
                    refine zz_lload (pc := 65) E dX8_parts_65 rfl ?_
                    refine zz_iload (pc := 67) E dX8_parts_67 rfl ?_
                    refine zz_eqi (y := nI (zd (zlb n i)).length) hnn ?_
                    refine zz_iload_n (pc := 69) E dX8_parts_69 rfl ?_
                    refine zz_eqi (y := nI u) hzu ?_
                    refine zz_ciV (pc := 70) E 100 (kkX8_is l G hJ _  S a (zlb n i) u hI.1 hS3 hza hd (by omega)) (cwV 4 hts gX8_parts_X8_is rfl rfl rfl (by decide +kernel) ⟨Nat.le_of_ble_eq_true rfl, Nat.le_of_ble_eq_true rfl⟩) (by decide) rfl rfl rfl rfl (Nat.le_of_ble_eq_true rfl) dX8_parts_70 (fun r70 M70 q70 => ?_)
                    obtain ⟨f70, rfl⟩ := q70
                    refine zz_aload_n (pc := 73) E dX8_parts_73 rfl ?_
                    refine zz_iload_n (pc := 74) E dX8_parts_74 rfl ?_
                    refine zz_eqi (y := nI b) hyb ?_
                    refine zz_lload (pc := 75) E dX8_parts_75 rfl ?_
                    refine zz_iload (pc := 77) E dX8_parts_77 rfl ?_
                    refine zz_eqi (y := nI (zd (zlb n i)).length) hnn ?_
                    refine zz_iload_n (pc := 79) E dX8_parts_79 rfl ?_
                    refine zz_eqi (y := nI u) hzu ?_
                    refine zz_ciV (pc := 80) E 100 (kkX8_is l G hJ _  S b (zlb n i) u hI.1 (ztl_mf hS3 f70 (by decide)) hzb hd (by omega)) (cwV 4 hts gX8_parts_X8_is rfl rfl rfl (by decide +kernel) ⟨Nat.le_of_ble_eq_true rfl, Nat.le_of_ble_eq_true rfl⟩) (by decide) rfl rfl rfl rfl (Nat.le_of_ble_eq_true rfl) dX8_parts_80 (fun r80 M80 q80 => ?_)
                    obtain ⟨f80, rfl⟩ := q80
                    refine zz_icmp_eq (pc := 83) (tgt := 89) E dX8_parts_83 (by decide) (fun h83 => ?_) (fun h83 => ?_)
                    · rw [zbx_ne] at h83
                      rw [h83] at hpt
                      have hpf : zpt S a b u (zbs3 n + i) = false := by rw [hpt]; simp
                      rw [hpf] at he3
                      refine zn_inc (pc := 89) (lv' := [(0, _), (1, _), (2, _), (3, _), (4, _), (5, _), (6, _), (7, _)]) E dX8_parts_89 rfl (by decide) rfl ?_
                      refine zz_goto (pc := 92) (tgt := 47) E dX8_parts_92 (by decide) ?_
                      exact zz_to (ih2 (i + 1) M80 (by omega) (zmf_ct (zmf_ct hf3 f70 (ks := [103]) (fun _ h => h) (fun _ h => h)) f80 (fun _ h => h) (fun _ h => h)) (by rw [he3]; rfl)) ⟨rfl, rfl, rfl, rfl, rfl, rfl, rfl, trivial⟩
                    · rw [zbx_ne] at h83
                      have hpt2 : zpt S a b u (zbs3 n + i) = true := by rw [hpt]; simp [h83]
                      rw [if_pos hpt2] at he3
                      have hf := zmf_ct (zmf_ct hf3 f70 (ks := [103]) (fun _ h => h) (fun _ h => h)) f80 (ks := [103]) (fun _ h => h) (fun _ h => h)
                      refine zz_lload (pc := 86) E dX8_parts_86 rfl ?_
                      exact zz_lret (pc := 88) E hr hlk dX8_parts_88 ⟨zmf_hi hf (by decide), zJ_mf hI hf (by decide) (by decide), by rw [hsp, he3, hl1]⟩
              exact zz_to (key2 (3 ^ n) 0 M2 (by omega) hf he) ⟨rfl, rfl, rfl, rfl, rfl, rfl, rfl, trivial⟩
        exact zz_to (key 7 0 M (by omega) (zmf_rf _ _) rfl) ⟨rfl, rfl, rfl, rfl, rfl, rfl, trivial⟩
      · rw [zp_w_0 (by decide)] at h24
        have hsp : sp_parts S x y z = -9223372036854775808 := by unfold sp_parts; rw [if_neg (by rw [h24]; simp)]
        refine zz_ldc2 (pc := 27) (v := (-9223372036854775808)) E clX8_parts_97 dX8_parts_27 ?_
        exact zz_lret (pc := 30) E hr hlk dX8_parts_30 ⟨zhi_rf _, hI, by rw [hsp]⟩

/-! firsts: six rounds are enough -/
theorem zpc_or : ∀ w, w < 64 → ∀ u, u < 64 → (w ||| u ≠ w) → zpc w + 1 ≤ zpc (w ||| u) := by decide +kernel
theorem zpc_63 : ∀ w, w < 64 → 6 ≤ zpc w → w = 63 := by decide +kernel
theorem zor_63 : ∀ u, u < 64 → 63 ||| u = 63 := by decide +kernel
theorem zfsi_stop {S : Nat → Option Nat} {w i : Nat} (h : zfsi S w (i + 1) = zfsi S w i) : ∀ n, zfsi S w (i + n) = zfsi S w i
  | 0 => rfl
  | n + 1 => by
    show zfst S (zfsi S w (i + n)) = _
    rw [zfsi_stop h n]
    exact h
theorem zfsi_grow {S : Nat → Option Nat} (hV : zV S) {w : Nat} (hw : w < 64) : ∀ i, i ≤ zpc (zfsi S w i) ∨ ∃ j, j < i ∧ zfsi S w (j + 1) = zfsi S w j
  | 0 => Or.inl (Nat.zero_le _)
  | i + 1 => by
    rcases zfsi_grow hV hw i with h | ⟨j, hj, he⟩
    · by_cases e : zfsi S w (i + 1) = zfsi S w i
      · exact Or.inr ⟨i, by omega, e⟩
      · left
        have h1 := zpc_or _ (zfsi_lt hV hw i) _ (zfof_lt (v := zit S 36) hV (zfsi S w i) 18 (Nat.le_refl _)) e
        show i + 1 ≤ zpc (zfsi S w i ||| _)
        omega
    · exact Or.inr ⟨j, by omega, he⟩
theorem zfsi_six {S : Nat → Option Nat} (hV : zV S) {w : Nat} (hw : w < 64) : zfsi S w 7 = zfsi S w 6 := by
  rcases zfsi_grow hV hw 6 with h | ⟨j, hj, he⟩
  · have e := zpc_63 _ (zfsi_lt hV hw 6) h
    show zfsi S w 6 ||| zfof S (zit S 36) (zfsi S w 6) 18 = zfsi S w 6
    rw [e]
    exact zor_63 _ (zfof_lt hV _ 18 (Nat.le_refl _))
  · have h1 := zfsi_stop he (6 - j)
    have h2 := zfsi_stop he (7 - j)
    rw [show j + (6 - j) = 6 by omega] at h1
    rw [show j + (7 - j) = 7 by omega] at h2
    rw [h1, h2]
/-- what was had the round before -/
def zhad (S : Nat → Option Nat) (w i : Nat) : Int32 := match i with
  | 0 => -1
  | i + 1 => nI (zfsi S w i)

theorem inX8_firsts_X8 : ∀ w ∈ u_ws RX8 TX8 14, w ∈ wsX8_firsts := by decide +kernel
theorem lkX8_firsts_7 : Cond.fieldLink RX8 7 RX8 "told" "[I" ∈ wsX8_firsts := by decide +kernel
set_option maxHeartbeats 4000000 in
set_option maxRecDepth 100000 in
theorem kkX8_firsts (l : Launch) (G : zz_C) (hJ : zz_J G) (M : zz_M) (S : Nat → Option Nat) (hs : List (Nat → Option Nat)) (x : Int32) (hI : zJ M S hs) : Met l yX8_firsts wsX8_firsts ({ frames := 4, cells := 0, slots := 0, locals := 96 } : Room) (zz_P G M [.ref (G.2.2 100), .int x]) (zz_Qi G (fun r M1 => zhi M M1 ∧ zJ M1 S hs ∧ r = sp_firsts S x)) 0 0 (zz_A G) := by
  refine zz_start hJ (by decide) rfl (Nat.le_of_ble_eq_true rfl) ?_
  intro p e s m below meth c E hr hlk
  have hts := E.2.2.2.2.1
  show zz_Z p l e (headSpec wsX8_firsts ({ frames := 4, cells := 0, slots := 0, locals := 96 } : Room)).room s m ([.ref (G.2.2 100), .int x] : List Value).toArray below meth c 0 0 (MQ below (zz_Qi G (fun r M1 => zhi M M1 ∧ zJ M1 S hs ∧ r = sp_firsts S x)) ([.ref (G.2.2 100), .int x] : List Value).toArray s 0 0 (zz_A G)) 5 G (zz_A G) M 0 [(0, .ref (G.2.2 100)), (1, .int x)] []
  refine zz_iload_n (pc := 0) E dX8_firsts_0 rfl ?_
  refine zz_bipush (pc := 1) (v := nI 9) E dX8_firsts_1 (by decide) ?_
  refine zz_ciS (pc := 3) E (kkX8_isRow l G hJ _ _ _ (by decide)) (va_cwS 2 hts gX8_firsts_X8_isRow rfl rfl rfl (by decide +kernel) ⟨Nat.le_of_ble_eq_true rfl, Nat.le_of_ble_eq_true rfl⟩) rfl rfl (Nat.le_of_ble_eq_true rfl) dX8_firsts_3 (fun r3 M3 q3 => ?_)
  obtain ⟨rfl, rfl⟩ := q3
  refine zb_if_ne (pc := 6) (tgt := 12) E dX8_firsts_6 (by decide) (fun h6 => ?_) (fun h6 => ?_)
  · obtain ⟨a, hxa, hza, han, ha9, ha31⟩ := zs_row_of h6 (by decide)
    have hsp : sp_firsts S x = nI (zfsi S (zfw (zit S 36) (zr a)) 6) := by unfold sp_firsts; rw [if_pos h6, ← han]
    have hw0 := zfw_lt (zit S 36) (zr a) (zr_lt hza)
    have hbd := zit_bd hI.1 36
    refine zz_aload_n (pc := 12) E dX8_firsts_12 rfl ?_
    refine zz_cvV (pc := 13) E 100 (kkX8_findNorms l G hJ _  S hI.1 hI.2.2.1) (cwV 0 hts gX8_firsts_X8_findNorms rfl rfl rfl (by decide +kernel) ⟨Nat.le_of_ble_eq_true rfl, Nat.le_of_ble_eq_true rfl⟩) (by decide) rfl rfl rfl rfl (Nat.le_of_ble_eq_true rfl) dX8_firsts_13 (fun M13 q13 => ?_)
    obtain ⟨f13, w13⟩ := q13
    refine zz_aload_n (pc := 16) E dX8_firsts_16 rfl ?_
    refine zz_iload_n (pc := 17) E dX8_firsts_17 rfl ?_
    refine zz_eqi (y := nI a) hxa ?_
    refine zz_ciV (pc := 18) E 100 (kkX8_comesFirst l G hJ _  (zit S 36) a 9 364 w13 hbd (by decide) hza (by decide)) (cwV 1 hts gX8_firsts_X8_comesFirst rfl rfl rfl (by decide +kernel) ⟨Nat.le_of_ble_eq_true rfl, Nat.le_of_ble_eq_true rfl⟩) (by decide) rfl rfl rfl rfl (Nat.le_of_ble_eq_true rfl) dX8_firsts_18 (fun r18 M18 q18 => ?_)
    obtain ⟨rfl, rfl⟩ := q18
    refine zz_istore_n (pc := 21) (lv' := [(0, _), (1, _), (2, _)]) E dX8_firsts_21 (by decide) rfl ?_
    refine zz_iconst (pc := 22) (v := -1) E dX8_firsts_22 (by decide) ?_
    refine zz_istore_n (pc := 23) (lv' := [(0, _), (1, _), (2, _), (3, _)]) E dX8_firsts_23 (by decide) rfl ?_
    have hS2 : ztl M13 S := fun i hi => by rw [f13 101 (by decide)]; exact hI.2.2.1 i hi
    generalize hwe : zfw (zit S 36) (zr a) = w0 at hw0 hsp ⊢
    have hend : zhi M M13 ∧ zJ M13 S hs := ⟨zfr_hi f13 (by decide), zJ_mf hI (zmf_fr f13 (by decide)) (by decide) (by decide)⟩
    have key : ∀ (j i : Nat), i + j = 7 → zz_Z p l e (headSpec wsX8_firsts ({ frames := 4, cells := 0, slots := 0, locals := 96 } : Room)).room s m ([.ref (G.2.2 100), .int x] : List Value).toArray below meth c 0 0 (MQ below (zz_Qi G (fun r M1 => zhi M M1 ∧ zJ M1 S hs ∧ r = sp_firsts S x)) ([.ref (G.2.2 100), .int x] : List Value).toArray s 0 0 (zz_A G)) 5 G (zz_A G) M13 24 [(0, .ref (G.2.2 100)), (1, .int x), (2, .int (nI (zfsi S w0 i))), (3, .int (zhad S w0 i))] [] := by
      intro j
      induction j with
      | zero =>
        intro i hi
        have hi7 : i = 7 := by omega
        subst hi7
        refine zz_iload_n (pc := 24) E dX8_firsts_24 rfl ?_
        refine zz_iload_n (pc := 25) E dX8_firsts_25 rfl ?_
        refine zz_icmp_eq (pc := 26) (tgt := 91) E dX8_firsts_26 (by decide) (fun h26 => ?_) (fun h26 => ?_)
        · refine zz_iload_n (pc := 91) E dX8_firsts_91 rfl ?_
          exact zz_iret (pc := 92) E hr hlk dX8_firsts_92 ⟨hend.1, hend.2, by rw [hsp, zfsi_six hI.1 hw0]⟩
        · exact absurd (show nI (zfsi S w0 6) = nI (zfsi S w0 7) by rw [zfsi_six hI.1 hw0]) h26
      | succ j ih =>
        intro i hi
        have hlt := zfsi_lt hI.1 hw0 i
        refine zz_iload_n (pc := 24) E dX8_firsts_24 rfl ?_
        refine zz_iload_n (pc := 25) E dX8_firsts_25 rfl ?_
        refine zz_icmp_eq (pc := 26) (tgt := 91) E dX8_firsts_26 (by decide) (fun h26 => ?_) (fun h26 => ?_)
        · have hst : zfsi S w0 i = zfsi S w0 6 := by
            cases i with
            | zero =>
              exfalso
              have h9 : (-1 : Int32) = nI (zfsi S w0 0) := h26
              have h8 := congrArg Int32.toInt h9
              rw [nI_toInt (by omega), show (-1 : Int32).toInt = -1 by decide] at h8
              omega
            | succ i =>
              have h9 : nI (zfsi S w0 i) = nI (zfsi S w0 (i + 1)) := h26
              have hlt0 := zfsi_lt hI.1 hw0 i
              rw [nI_eq (by omega) (by omega)] at h9
              have h7 := zfsi_stop h9.symm (6 - i)
              rw [show i + (6 - i) = 6 by omega] at h7
              rw [h7, h9]
          refine zz_iload_n (pc := 91) E dX8_firsts_91 rfl ?_
          exact zz_iret (pc := 92) E hr hlk dX8_firsts_92 ⟨hend.1, hend.2, by rw [hsp, hst]⟩
        · refine zz_iload_n (pc := 29) E dX8_firsts_29 rfl ?_
          refine zz_istore_n (pc := 30) (lv' := [(0, _), (1, _), (2, _), (3, _)]) E dX8_firsts_30 (by decide) rfl ?_
          refine zz_iconst (pc := 31) (v := nI 0) E dX8_firsts_31 (by decide) ?_
          refine zz_istore (pc := 32) (lv' := [(0, _), (1, _), (2, _), (3, _), (4, _)]) E dX8_firsts_32 (by decide) rfl ?_
          have key2 : ∀ (j2 i2 : Nat), i2 + j2 = 18 → zz_Z p l e (headSpec wsX8_firsts ({ frames := 4, cells := 0, slots := 0, locals := 96 } : Room)).room s m ([.ref (G.2.2 100), .int x] : List Value).toArray below meth c 0 0 (MQ below (zz_Qi G (fun r M1 => zhi M M1 ∧ zJ M1 S hs ∧ r = sp_firsts S x)) ([.ref (G.2.2 100), .int x] : List Value).toArray s 0 0 (zz_A G)) 5 G (zz_A G) M13 34 [(0, .ref (G.2.2 100)), (1, .int x), (2, .int (nI (zfsi S w0 i ||| zfof S (zit S 36) (zfsi S w0 i) i2))), (3, .int (nI (zfsi S w0 i))), (4, .int (nI i2))] [] := by
            intro j2
            induction j2 with
            | zero =>
              intro i2 hi2
              have h18 : i2 = 18 := by omega
              subst h18
              refine zz_iload (pc := 34) E dX8_firsts_34 rfl ?_
              refine zz_bipush (pc := 36) (v := nI 18) E dX8_firsts_36 (by decide) ?_
              refine zn_icmp_ge (pc := 38) (tgt := 88) E dX8_firsts_38 (by decide) (by omega) (by omega) (fun h38 => ?_) (fun h38 => ?_)
              · refine zz_goto (pc := 88) (tgt := 24) E dX8_firsts_88 (by decide) ?_
                exact zz_to (ih (i + 1) (by omega)) ⟨rfl, rfl, rfl, rfl, trivial⟩
              · exact absurd h38 (by omega)
            | succ j2 ih2 =>
              intro i2 hi2
              have h101 : M13 101 i2 = zo (S i2) := hS2 i2 (by omega)
              have hlti : ∀ q, S i2 = some q → q < 2 ^ 31 := fun q hq => by have := zV_lt hI.1 (by omega) hq; omega
              have hcur := zor_lt hlt (zfof_lt (v := zit S 36) hI.1 (zfsi S w0 i) i2 (by omega))
              have hst : zfof S (zit S 36) (zfsi S w0 i) (i2 + 1) = if zbit (zfsi S w0 i) (i2 / 3) = true then (match S i2 with | none => zfof S (zit S 36) (zfsi S w0 i) i2 | some r => zfof S (zit S 36) (zfsi S w0 i) i2 ||| zfw (zit S 36) (zr r)) else zfof S (zit S 36) (zfsi S w0 i) i2 := rfl
              refine zz_iload (pc := 34) E dX8_firsts_34 rfl ?_
              refine zz_bipush (pc := 36) (v := nI 18) E dX8_firsts_36 (by decide) ?_
              refine zn_icmp_ge (pc := 38) (tgt := 88) E dX8_firsts_38 (by decide) (by omega) (by omega) (fun h38 => ?_) (fun h38 => ?_)
              · exact absurd h38 (by omega)
              · refine zz_iload_n (pc := 41) E dX8_firsts_41 rfl ?_
                refine zz_iload_n (pc := 42) E dX8_firsts_42 rfl ?_
                refine zz_iload (pc := 43) E dX8_firsts_43 rfl ?_
                refine zz_iconst (pc := 45) (v := nI 3) E dX8_firsts_45 (by decide) ?_
                refine zn_idiv (pc := 46) E dX8_firsts_46 (by omega) (by omega) (by omega) ?_
                refine zz_ciS (pc := 47) E (kkX8_has l G hJ _ _ _ hlt (by omega)) (va_cwS 2 hts gX8_firsts_X8_has rfl rfl rfl (by decide +kernel) ⟨Nat.le_of_ble_eq_true rfl, Nat.le_of_ble_eq_true rfl⟩) rfl rfl (Nat.le_of_ble_eq_true rfl) dX8_firsts_47 (fun r47 M47 q47 => ?_)
                obtain ⟨rfl, rfl⟩ := q47
                refine zb_if_eq (pc := 50) (tgt := 79) E dX8_firsts_50 (by decide) (fun h50 => ?_) (fun h50 => ?_)
                · rw [if_neg (by rw [h50]; simp)] at hst
                  refine zz_iconst (pc := 79) (v := nI 0) E dX8_firsts_79 (by decide) ?_
                  refine zz_ior (pc := 80) E dX8_firsts_80 ?_
                  refine zz_eqi (y := nI (zfsi S w0 i ||| zfof S (zit S 36) (zfsi S w0 i) (i2 + 1))) (by rw [zor_ok _ hcur _ (by decide), hst, Nat.or_zero]) ?_
                  refine zz_istore_n (pc := 81) (lv' := [(0, _), (1, _), (2, _), (3, _), (4, _)]) E dX8_firsts_81 (by decide) rfl ?_
                  refine zn_inc (pc := 82) (lv' := [(0, _), (1, _), (2, _), (3, _), (4, _)]) E dX8_firsts_82 rfl (by decide) rfl ?_
                  refine zz_goto (pc := 85) (tgt := 34) E dX8_firsts_85 (by decide) ?_
                  exact zz_to (ih2 (i2 + 1) (by omega)) ⟨rfl, rfl, rfl, rfl, rfl, trivial⟩
                · rw [if_pos h50] at hst
                  refine zz_aload_n (pc := 53) E dX8_firsts_53 rfl ?_
                  refine zz_gf (pc := 54) E 100 (by decide) rfl rfl inX8_firsts_X8 0 (by decide) lkX8_firsts_7 (fun _ h => h) rfl dX8_firsts_54 ?_
                  refine zz_iload (pc := 57) E dX8_firsts_57 rfl ?_
                  refine zz_iald (pc := 59) E 101 (_) (n := 24) (by decide) rfl rfl (by omega) (by decide) dX8_firsts_59 ?_
                  refine zz_eqi (y := zo (S i2)) h101 ?_
                  refine zz_bipush (pc := 60) (v := -9) E dX8_firsts_60 (by decide) ?_
                  refine zz_icmp_eq (pc := 62) (tgt := 79) E dX8_firsts_62 (by decide) (fun h62 => ?_) (fun h62 => ?_)
                  · rw [zo_m9 hlti] at h62
                    rw [h62] at hst
                    refine zz_iconst (pc := 79) (v := nI 0) E dX8_firsts_79 (by decide) ?_
                    refine zz_ior (pc := 80) E dX8_firsts_80 ?_
                    refine zz_eqi (y := nI (zfsi S w0 i ||| zfof S (zit S 36) (zfsi S w0 i) (i2 + 1))) (by rw [zor_ok _ hcur _ (by decide), hst, Nat.or_zero]) ?_
                    refine zz_istore_n (pc := 81) (lv' := [(0, _), (1, _), (2, _), (3, _), (4, _)]) E dX8_firsts_81 (by decide) rfl ?_
                    refine zn_inc (pc := 82) (lv' := [(0, _), (1, _), (2, _), (3, _), (4, _)]) E dX8_firsts_82 rfl (by decide) rfl ?_
                    refine zz_goto (pc := 85) (tgt := 34) E dX8_firsts_85 (by decide) ?_
                    exact zz_to (ih2 (i2 + 1) (by omega)) ⟨rfl, rfl, rfl, rfl, rfl, trivial⟩
                  · obtain ⟨r, hrr⟩ : ∃ q, S i2 = some q := by
                      cases hv2 : S i2 with
                      | none => exact absurd (by rw [hv2]; rfl) h62
                      | some q => exact ⟨q, rfl⟩
                    have hzr := hI.1.1 i2 (by omega) r hrr
                    rw [hrr] at hst
                    refine zz_aload_n (pc := 65) E dX8_firsts_65 rfl ?_
                    refine zz_aload_n (pc := 66) E dX8_firsts_66 rfl ?_
                    refine zz_gf (pc := 67) E 100 (by decide) rfl rfl inX8_firsts_X8 0 (by decide) lkX8_firsts_7 (fun _ h => h) rfl dX8_firsts_67 ?_
                    refine zz_iload (pc := 70) E dX8_firsts_70 rfl ?_
                    refine zz_iald (pc := 72) E 101 (_) (n := 24) (by decide) rfl rfl (by omega) (by decide) dX8_firsts_72 ?_
                    refine zz_eqi (y := nI r) (by rw [h101, hrr]; rfl) ?_
                    refine zz_ciV (pc := 73) E 100 (kkX8_comesFirst l G hJ _  (zit S 36) r 3 364 w13 hbd (by decide) hzr (by decide)) (cwV 1 hts gX8_firsts_X8_comesFirst rfl rfl rfl (by decide +kernel) ⟨Nat.le_of_ble_eq_true rfl, Nat.le_of_ble_eq_true rfl⟩) (by decide) rfl rfl rfl rfl (Nat.le_of_ble_eq_true rfl) dX8_firsts_73 (fun r73 M73 q73 => ?_)
                    obtain ⟨rfl, rfl⟩ := q73
                    refine zz_goto (pc := 76) (tgt := 80) E dX8_firsts_76 (by decide) ?_
                    refine zz_ior (pc := 80) E dX8_firsts_80 ?_
                    refine zz_eqi (y := nI (zfsi S w0 i ||| zfof S (zit S 36) (zfsi S w0 i) (i2 + 1))) (by rw [zor_ok _ hcur _ (zfw_lt _ _ (zr_lt hzr)), hst, Nat.or_assoc]) ?_
                    refine zz_istore_n (pc := 81) (lv' := [(0, _), (1, _), (2, _), (3, _), (4, _)]) E dX8_firsts_81 (by decide) rfl ?_
                    refine zn_inc (pc := 82) (lv' := [(0, _), (1, _), (2, _), (3, _), (4, _)]) E dX8_firsts_82 rfl (by decide) rfl ?_
                    refine zz_goto (pc := 85) (tgt := 34) E dX8_firsts_85 (by decide) ?_
                    exact zz_to (ih2 (i2 + 1) (by omega)) ⟨rfl, rfl, rfl, rfl, rfl, trivial⟩
          exact zz_to (key2 18 0 (by omega)) ⟨rfl, rfl, by show _ = some (Value.int (nI (zfsi S w0 i ||| 0))); rw [Nat.or_zero]; rfl, rfl, rfl, trivial⟩
    exact zz_to (key 7 0 (by omega)) ⟨rfl, rfl, rfl, rfl, trivial⟩
  · have hsp : sp_firsts S x = -2 := by unfold sp_firsts; rw [if_neg (by rw [h6]; simp)]
    refine zz_bipush (pc := 9) (v := -2) E dX8_firsts_9 (by decide) ?_
    exact zz_iret (pc := 11) E hr hlk dX8_firsts_11 ⟨zhi_rf _, hI, by rw [hsp]⟩

theorem inX8_claim_X8 : ∀ w ∈ u_ws RX8 TX8 14, w ∈ wsX8_claim := by decide +kernel
theorem lkX8_claim_7 : Cond.fieldLink RX8 7 RX8 "told" "[I" ∈ wsX8_claim := by decide +kernel
set_option maxHeartbeats 4000000 in
set_option maxRecDepth 100000 in
theorem kkX8_claim (l : Launch) (G : zz_C) (hJ : zz_J G) (M : zz_M) (S : Nat → Option Nat) (hs : List (Nat → Option Nat)) (x z : Int32) (hI : zJ M S hs) : Met l yX8_claim wsX8_claim ({ frames := 3, cells := 0, slots := 0, locals := 69 } : Room) (zz_P G M [.ref (G.2.2 100), .int x, .int z]) (zz_Qi G (fun r M1 => zhi M M1 ∧ r = (sp_claim S hs x z).1 ∧ zJ M1 (sp_claim S hs x z).2.1 (sp_claim S hs x z).2.2)) 0 0 (zz_A G) := by
  refine zz_start hJ (by decide) rfl (Nat.le_of_ble_eq_true rfl) ?_
  intro p e s m below meth c E hr hlk
  have hts := E.2.2.2.2.1
  show zz_Z p l e (headSpec wsX8_claim ({ frames := 3, cells := 0, slots := 0, locals := 69 } : Room)).room s m ([.ref (G.2.2 100), .int x, .int z] : List Value).toArray below meth c 0 0 (MQ below (zz_Qi G (fun r M1 => zhi M M1 ∧ r = (sp_claim S hs x z).1 ∧ zJ M1 (sp_claim S hs x z).2.1 (sp_claim S hs x z).2.2)) ([.ref (G.2.2 100), .int x, .int z] : List Value).toArray s 0 0 (zz_A G)) 4 G (zz_A G) M 0 [(0, .ref (G.2.2 100)), (1, .int x), (2, .int z)] []
  obtain ⟨hV, hh, hS, hp⟩ := id hI
  refine zz_iload_n (pc := 0) E dX8_claim_0 rfl ?_
  refine zz_ciS (pc := 1) E (kkX8_isSign l G hJ _ _ ) (va_cwS 1 hts gX8_claim_X8_isSign rfl rfl rfl (by decide +kernel) ⟨Nat.le_of_ble_eq_true rfl, Nat.le_of_ble_eq_true rfl⟩) rfl rfl (Nat.le_of_ble_eq_true rfl) dX8_claim_1 (fun r1 M1 q1 => ?_)
  obtain ⟨rfl, rfl⟩ := q1
  refine zb_if_ne (pc := 4) (tgt := 9) E dX8_claim_4 (by decide) (fun h4 => ?_) (fun h4 => ?_)
  · obtain ⟨s0, hs0, hxs⟩ := zp_in_of h4 (by decide)
    have hxn : x.toInt.toNat = s0 := by rw [hxs, nI_nat (by omega)]
    refine zz_iload_n (pc := 9) E dX8_claim_9 rfl ?_
    refine zz_bipush (pc := 10) (v := -9) E dX8_claim_10 (by decide) ?_
    refine zz_icmp_eq (pc := 12) (tgt := 26) E dX8_claim_12 (by decide) (fun h12 => ?_) (fun h12 => ?_)
    · have hzz : zclm x z = true := by unfold zclm; rw [decide_eq_true h12]; rfl
      have hsp : sp_claim S hs x z = (zo (S (18 + s0)), zvu S (18 + s0) (zin z), zkp S hs) := by unfold sp_claim; rw [if_pos h4, if_pos hzz, hxn]
      unfold zclm at hzz
      rw [hxn] at hzz
      have hz1 : (decide (z = -9) || zs_row z.toInt64 s0 3) = true := by simp only [Bool.or_eq_true, Bool.and_eq_true] at hzz ⊢; rcases hzz with h | h; exact Or.inl h; exact Or.inr h.1
      refine zz_aload_n (pc := 26) E dX8_claim_26 rfl ?_
      refine zz_cvV (pc := 27) E 100 (kkX8_keeps l G hJ _  S hs hS hp) (cwV 0 hts gX8_claim_X8_keeps rfl rfl rfl (by decide +kernel) ⟨Nat.le_of_ble_eq_true rfl, Nat.le_of_ble_eq_true rfl⟩) (by decide) rfl rfl rfl rfl (Nat.le_of_ble_eq_true rfl) dX8_claim_27 (fun M27 q27 => ?_)
      obtain ⟨f27, w27⟩ := q27
      have hS2 : ztl M27 S := fun i hi => by rw [f27 101 (by decide)]; exact hS i hi
      refine zz_aload_n (pc := 30) E dX8_claim_30 rfl ?_
      refine zz_iload_n (pc := 31) E dX8_claim_31 rfl ?_
      refine zz_eqi (y := nI s0) hxs ?_
      refine zz_ciV (pc := 32) E 100 (kkX8_claimOf l G hJ _ _ (by omega)) (cwV 1 hts gX8_claim_X8_claimOf rfl rfl rfl (by decide +kernel) ⟨Nat.le_of_ble_eq_true rfl, Nat.le_of_ble_eq_true rfl⟩) (by decide) rfl rfl rfl rfl (Nat.le_of_ble_eq_true rfl) dX8_claim_32 (fun r32 M32 q32 => ?_)
      obtain ⟨rfl, rfl⟩ := q32
      refine zz_eqi (y := zo (S (18 + s0))) (hS2 _ (by omega)) ?_
      refine zz_istore_n (pc := 35) (lv' := [(0, _), (1, _), (2, _), (3, _)]) E dX8_claim_35 (by decide) rfl ?_
      refine zz_aload_n (pc := 36) E dX8_claim_36 rfl ?_
      refine zz_gf (pc := 37) E 100 (by decide) rfl rfl inX8_claim_X8 0 (by decide) lkX8_claim_7 (fun _ h => h) rfl dX8_claim_37 ?_
      refine zz_bipush (pc := 40) (v := nI 18) E dX8_claim_40 (by decide) ?_
      refine zz_iload_n (pc := 42) E dX8_claim_42 rfl ?_
      refine zz_eqi (y := nI s0) hxs ?_
      refine zn_iadd (pc := 43) E dX8_claim_43 ?_
      refine zz_iload_n (pc := 44) E dX8_claim_44 rfl ?_
      refine zz_iast (pc := 45) E 101 (18 + s0) (n := 24) (by decide) (fun _ => rfl) rfl (by omega) (by decide) dX8_claim_45 ?_
      refine zz_iload_n (pc := 46) E dX8_claim_46 rfl ?_
      exact zz_iret (pc := 47) E hr hlk dX8_claim_47 ⟨zhi_up (zfr_hi f27 (by decide)) (by decide), by rw [hsp], by rw [hsp]; exact ⟨zV_clm hV hs0 (fun a ha => ⟨(zin_ok hz1 (by decide) ha).1, zin_ne hzz ha⟩), zkp_V hV hh, ztl_up hS2 (by omega) (zo_zin hz1 (by decide)), zah_mf (ks := [101]) w27 (zmf_up (zmf_rf _ _) (by simp) (by decide)) (by decide)⟩⟩
    · refine zz_iload_n (pc := 15) E dX8_claim_15 rfl ?_
      refine zz_eqi (y := nI s0) hxs ?_
      refine zz_iload_n (pc := 16) E dX8_claim_16 rfl ?_
      refine zz_ciS (pc := 17) E (kkX8_isClaim l G hJ _ _ _ (by omega)) (va_cwS 2 hts gX8_claim_X8_isClaim rfl rfl rfl (by decide +kernel) ⟨Nat.le_of_ble_eq_true rfl, Nat.le_of_ble_eq_true rfl⟩) rfl rfl (Nat.le_of_ble_eq_true rfl) dX8_claim_17 (fun r17 M17 q17 => ?_)
      obtain ⟨rfl, rfl⟩ := q17
      refine zb_if_ne (pc := 20) (tgt := 26) E dX8_claim_20 (by decide) (fun h20 => ?_) (fun h20 => ?_)
      · have hzz : zclm x z = true := by unfold zclm; rw [hxn, h20, Bool.or_true]
        have hsp : sp_claim S hs x z = (zo (S (18 + s0)), zvu S (18 + s0) (zin z), zkp S hs) := by unfold sp_claim; rw [if_pos h4, if_pos hzz, hxn]
        unfold zclm at hzz
        rw [hxn] at hzz
        have hz1 : (decide (z = -9) || zs_row z.toInt64 s0 3) = true := by simp only [Bool.or_eq_true, Bool.and_eq_true] at hzz ⊢; rcases hzz with h | h; exact Or.inl h; exact Or.inr h.1
        refine zz_aload_n (pc := 26) E dX8_claim_26 rfl ?_
        refine zz_cvV (pc := 27) E 100 (kkX8_keeps l G hJ _  S hs hS hp) (cwV 0 hts gX8_claim_X8_keeps rfl rfl rfl (by decide +kernel) ⟨Nat.le_of_ble_eq_true rfl, Nat.le_of_ble_eq_true rfl⟩) (by decide) rfl rfl rfl rfl (Nat.le_of_ble_eq_true rfl) dX8_claim_27 (fun M27 q27 => ?_)
        obtain ⟨f27, w27⟩ := q27
        have hS2 : ztl M27 S := fun i hi => by rw [f27 101 (by decide)]; exact hS i hi
        refine zz_aload_n (pc := 30) E dX8_claim_30 rfl ?_
        refine zz_iload_n (pc := 31) E dX8_claim_31 rfl ?_
        refine zz_eqi (y := nI s0) hxs ?_
        refine zz_ciV (pc := 32) E 100 (kkX8_claimOf l G hJ _ _ (by omega)) (cwV 1 hts gX8_claim_X8_claimOf rfl rfl rfl (by decide +kernel) ⟨Nat.le_of_ble_eq_true rfl, Nat.le_of_ble_eq_true rfl⟩) (by decide) rfl rfl rfl rfl (Nat.le_of_ble_eq_true rfl) dX8_claim_32 (fun r32 M32 q32 => ?_)
        obtain ⟨rfl, rfl⟩ := q32
        refine zz_eqi (y := zo (S (18 + s0))) (hS2 _ (by omega)) ?_
        refine zz_istore_n (pc := 35) (lv' := [(0, _), (1, _), (2, _), (3, _)]) E dX8_claim_35 (by decide) rfl ?_
        refine zz_aload_n (pc := 36) E dX8_claim_36 rfl ?_
        refine zz_gf (pc := 37) E 100 (by decide) rfl rfl inX8_claim_X8 0 (by decide) lkX8_claim_7 (fun _ h => h) rfl dX8_claim_37 ?_
        refine zz_bipush (pc := 40) (v := nI 18) E dX8_claim_40 (by decide) ?_
        refine zz_iload_n (pc := 42) E dX8_claim_42 rfl ?_
        refine zz_eqi (y := nI s0) hxs ?_
        refine zn_iadd (pc := 43) E dX8_claim_43 ?_
        refine zz_iload_n (pc := 44) E dX8_claim_44 rfl ?_
        refine zz_iast (pc := 45) E 101 (18 + s0) (n := 24) (by decide) (fun _ => rfl) rfl (by omega) (by decide) dX8_claim_45 ?_
        refine zz_iload_n (pc := 46) E dX8_claim_46 rfl ?_
        exact zz_iret (pc := 47) E hr hlk dX8_claim_47 ⟨zhi_up (zfr_hi f27 (by decide)) (by decide), by rw [hsp], by rw [hsp]; exact ⟨zV_clm hV hs0 (fun a ha => ⟨(zin_ok hz1 (by decide) ha).1, zin_ne hzz ha⟩), zkp_V hV hh, ztl_up hS2 (by omega) (zo_zin hz1 (by decide)), zah_mf (ks := [101]) w27 (zmf_up (zmf_rf _ _) (by simp) (by decide)) (by decide)⟩⟩
      · have hsp : sp_claim S hs x z = (-2, S, hs) := by unfold sp_claim; rw [if_pos h4, if_neg (by unfold zclm; rw [hxn, h20, decide_eq_false h12]; simp)]
        refine zz_bipush (pc := 23) (v := -2) E dX8_claim_23 (by decide) ?_
        exact zz_iret (pc := 25) E hr hlk dX8_claim_25 ⟨zhi_rf _, by rw [hsp], by rw [hsp]; exact hI⟩
  · have hsp : sp_claim S hs x z = (-1, S, hs) := by unfold sp_claim; rw [if_neg (by rw [h4]; simp)]
    refine zz_iconst (pc := 7) (v := -1) E dX8_claim_7 (by decide) ?_
    exact zz_iret (pc := 8) E hr hlk dX8_claim_8 ⟨zhi_rf _, by rw [hsp], by rw [hsp]; exact hI⟩

set_option maxHeartbeats 4000000 in
set_option maxRecDepth 100000 in
theorem kkX8_ofClaim (l : Launch) (G : zz_C) (hJ : zz_J G) (M : zz_M) (S : Nat → Option Nat) (hs : List (Nat → Option Nat)) (x : Int32) (hI : zJ M S hs) : Met l yX8_ofClaim wsX8_ofClaim ({ frames := 2, cells := 0, slots := 0, locals := 42 } : Room) (zz_P G M [.ref (G.2.2 100), .int x]) (zz_Qi G (fun r M1 => zhi M M1 ∧ zJ M1 S hs ∧ r = sp_ofClaim S x)) 0 0 (zz_A G) := by
  refine zz_start hJ (by decide) rfl (Nat.le_of_ble_eq_true rfl) ?_
  intro p e s m below meth c E hr hlk
  have hts := E.2.2.2.2.1
  show zz_Z p l e (headSpec wsX8_ofClaim ({ frames := 2, cells := 0, slots := 0, locals := 42 } : Room)).room s m ([.ref (G.2.2 100), .int x] : List Value).toArray below meth c 0 0 (MQ below (zz_Qi G (fun r M1 => zhi M M1 ∧ zJ M1 S hs ∧ r = sp_ofClaim S x)) ([.ref (G.2.2 100), .int x] : List Value).toArray s 0 0 (zz_A G)) 2 G (zz_A G) M 0 [(0, .ref (G.2.2 100)), (1, .int x)] []
  refine zz_iload_n (pc := 0) E dX8_ofClaim_0 rfl ?_
  refine zz_ciS (pc := 1) E (kkX8_isSign l G hJ _ _ ) (va_cwS 1 hts gX8_ofClaim_X8_isSign rfl rfl rfl (by decide +kernel) ⟨Nat.le_of_ble_eq_true rfl, Nat.le_of_ble_eq_true rfl⟩) rfl rfl (Nat.le_of_ble_eq_true rfl) dX8_ofClaim_1 (fun r1 M1 q1 => ?_)
  obtain ⟨rfl, rfl⟩ := q1
  refine zb_if_eq (pc := 4) (tgt := 15) E dX8_ofClaim_4 (by decide) (fun h4 => ?_) (fun h4 => ?_)
  · have hsp : sp_ofClaim S x = -1 := by unfold sp_ofClaim; rw [if_neg (by rw [h4]; simp)]
    refine zz_iconst (pc := 15) (v := -1) E dX8_ofClaim_15 (by decide) ?_
    exact zz_iret (pc := 16) E hr hlk dX8_ofClaim_16 ⟨zhi_rf _, hI, by rw [hsp]⟩
  · obtain ⟨s0, hs0, hxs⟩ := zp_in_of h4 (by decide)
    have hsp : sp_ofClaim S x = zo (S (18 + s0)) := by unfold sp_ofClaim; rw [if_pos h4, hxs, nI_nat (by omega)]
    refine zz_aload_n (pc := 7) E dX8_ofClaim_7 rfl ?_
    refine zz_iload_n (pc := 8) E dX8_ofClaim_8 rfl ?_
    refine zz_eqi (y := nI s0) hxs ?_
    refine zz_ciV (pc := 9) E 100 (kkX8_claimOf l G hJ _ _ (by omega)) (cwV 1 hts gX8_ofClaim_X8_claimOf rfl rfl rfl (by decide +kernel) ⟨Nat.le_of_ble_eq_true rfl, Nat.le_of_ble_eq_true rfl⟩) (by decide) rfl rfl rfl rfl (Nat.le_of_ble_eq_true rfl) dX8_ofClaim_9 (fun r9 M9 q9 => ?_)
    obtain ⟨rfl, rfl⟩ := q9
    refine zz_eqi (y := zo (S (18 + s0))) (hI.2.2.1 _ (by omega)) ?_
    refine zz_goto (pc := 12) (tgt := 16) E dX8_ofClaim_12 (by decide) ?_
    exact zz_iret (pc := 16) E hr hlk dX8_ofClaim_16 ⟨zhi_rf _, hI, by rw [hsp]⟩
