theorem zI_lo_rf (M : zz_M) : zlo M M := fun _ _ => rfl
theorem zlo_tr {M M1 M2 : zz_M} (h1 : zlo M M1) (h2 : zlo M1 M2) : zlo M M2 := fun j hj => by rw [h2 j hj, h1 j hj]
theorem zlo_up {M M1 : zz_M} {k : Nat} {f : Nat → Int32} (h : zlo M M1) (hk : k < 100) : zlo M (zz_up M1 k f) := fun j hj => by rw [zz_up_ne _ _ (by omega)]; exact h j hj
theorem zKP_lo : ∀ j ∈ zKP, j < 100 := by decide
theorem zp_w3 {x : Int32} {n : Nat} (h : ¬ x ≤ nI n) (hn : n + 1 < 2 ^ 31 := by decide) : zp_in x (n + 1) = false := by
  rw [Int32.le_iff_toInt_le, nI_toInt (by omega)] at h
  unfold zp_in
  rw [decide_eq_false_iff_not]
  omega
theorem zp_w3t {x : Int32} {n : Nat} (h0 : ¬ x < 0) (h : x ≤ nI n) (hn : n + 1 < 2 ^ 31 := by decide) : zp_in x (n + 1) = true := by
  rw [Int32.le_iff_toInt_le, nI_toInt (by omega)] at h
  rw [Int32.lt_iff_toInt_lt] at h0
  have h0 : ¬ x.toInt < 0 := h0
  unfold zp_in
  rw [decide_eq_true_iff]
  omega
theorem nI_nat {a : Nat} (h : a < 2 ^ 31) : (nI a).toInt.toNat = a := by rw [nI_toInt h]; rfl

theorem inX7_rule_X7 : ∀ w ∈ u_ws RX7 TX7 8, w ∈ wsX7_rule := by decide +kernel
theorem lkX7_rule_21 : Cond.fieldLink RX7 21 RX7 "past" "LFirstSigns$Past;" ∈ wsX7_rule := by decide +kernel
theorem lkX7_rule_12 : Cond.fieldLink RX7 12 RX7 "table" "LFirstSigns$Table;" ∈ wsX7_rule := by decide +kernel
set_option maxHeartbeats 4000000 in
set_option maxRecDepth 100000 in
theorem kkX7_rule (l : Launch) (G : zz_C) (hJ : zz_J G) (M : zz_M) (S : Nat → Option Nat) (hs : List (Nat → Option Nat)) (x y z : Int32) (hI : zI M S hs) : Met l yX7_rule wsX7_rule ({ frames := 3, cells := 0, slots := 0, locals := 102 } : Room) (zz_P G M [.ref (G.2.2 0), .int x, .int y, .int z]) (zz_Qi G (fun r M1 => zlo M M1 ∧ r = (sp_rule S hs x y z).1 ∧ zI M1 (sp_rule S hs x y z).2.1 (sp_rule S hs x y z).2.2)) 0 0 (zz_A G) := by
  refine zz_start hJ (by decide) rfl (Nat.le_of_ble_eq_true rfl) ?_
  intro p e s m below meth c E hr hlk
  have hts := E.2.2.2.2.1
  show zz_Z p l e (headSpec wsX7_rule ({ frames := 3, cells := 0, slots := 0, locals := 102 } : Room)).room s m ([.ref (G.2.2 0), .int x, .int y, .int z] : List Value).toArray below meth c 0 0 (MQ below (zz_Qi G (fun r M1 => zlo M M1 ∧ r = (sp_rule S hs x y z).1 ∧ zI M1 (sp_rule S hs x y z).2.1 (sp_rule S hs x y z).2.2)) ([.ref (G.2.2 0), .int x, .int y, .int z] : List Value).toArray s 0 0 (zz_A G)) 5 G (zz_A G) M 0 [(0, .ref (G.2.2 0)), (1, .int x), (2, .int y), (3, .int z)] []
  obtain ⟨hV, hh, hS, nx, hp⟩ := id hI
  refine zz_iload_n (pc := 0) E dX7_rule_0 rfl ?_
  refine zz_ciS (pc := 1) E (kkX7_isSign l G hJ _ _ ) (va_cwS 1 hts gX7_rule_X7_isSign rfl rfl rfl (by decide +kernel) ⟨Nat.le_of_ble_eq_true rfl, Nat.le_of_ble_eq_true rfl⟩) rfl rfl (Nat.le_of_ble_eq_true rfl) dX7_rule_1 (fun r1 M1 q1 => ?_)
  obtain ⟨rfl, rfl⟩ := q1
  refine zb_if_eq (pc := 4) (tgt := 14) E dX7_rule_4 (by decide) (fun h4 => ?_) (fun h4 => ?_)
  · have hsp : sp_rule S hs x y z = (-1, S, hs) := by unfold sp_rule; rw [if_neg (by rw [h4]; simp)]
    refine zz_iconst (pc := 14) (v := -1) E dX7_rule_14 (by decide) ?_
    exact zz_iret (pc := 15) E hr hlk dX7_rule_15 ⟨zI_lo_rf _, by rw [hsp], by rw [hsp]; exact hI⟩
  · refine zz_iload_n (pc := 7) E dX7_rule_7 rfl ?_
    refine zz_ciS (pc := 8) E (kkX7_isLetter l G hJ _ _ ) (va_cwS 1 hts gX7_rule_X7_isLetter rfl rfl rfl (by decide +kernel) ⟨Nat.le_of_ble_eq_true rfl, Nat.le_of_ble_eq_true rfl⟩) rfl rfl (Nat.le_of_ble_eq_true rfl) dX7_rule_8 (fun r8 M8 q8 => ?_)
    obtain ⟨rfl, rfl⟩ := q8
    refine zb_if_ne (pc := 11) (tgt := 16) E dX7_rule_11 (by decide) (fun h11 => ?_) (fun h11 => ?_)
    · obtain ⟨s0, hs0, hxs⟩ := zp_in_of h4 (by decide)
      obtain ⟨a0, ha0, hya⟩ := zp_in_of h11 (by decide)
      have hxn : x.toInt.toNat = s0 := by rw [hxs, nI_nat (by omega)]
      have hyn : y.toInt.toNat = a0 := by rw [hya, nI_nat (by omega)]
      refine zz_iload_n (pc := 16) E dX7_rule_16 rfl ?_
      refine zz_bipush (pc := 17) (v := -9) E dX7_rule_17 (by decide) ?_
      refine zz_icmp_eq (pc := 19) (tgt := 36) E dX7_rule_19 (by decide) (fun h19 => ?_) (fun h19 => ?_)
      · have hzz : (decide (z = -9) || zs_row z.toInt64 6 3) = true := by rw [decide_eq_true h19]; rfl
        have hsp : sp_rule S hs x y z = (zo (S (3 * s0 + a0)), zvu S (3 * s0 + a0) (zin z), zkp S hs) := by unfold sp_rule; rw [if_pos (by rw [h4, h11]; rfl), if_pos hzz, hxn, hyn]
        refine zz_aload_n (pc := 36) E dX7_rule_36 rfl ?_
        refine zz_gf (pc := 37) E 0 (by decide) rfl rfl inX7_rule_X7 1 (by decide) lkX7_rule_21 (fun _ h => h) rfl dX7_rule_37 ?_
        refine zz_aload_n (pc := 40) E dX7_rule_40 rfl ?_
        refine zz_gf (pc := 41) E 0 (by decide) rfl rfl inX7_rule_X7 0 (by decide) lkX7_rule_12 (fun _ h => h) rfl dX7_rule_41 ?_
        refine zz_cvV (pc := 44) E 4 (kkX3_keep l G hJ _  nx hs S hp hS) (cwV 1 hts gX7_rule_X3_keep rfl rfl rfl (by decide +kernel) ⟨Nat.le_of_ble_eq_true rfl, Nat.le_of_ble_eq_true rfl⟩) (by decide) rfl rfl rfl rfl (Nat.le_of_ble_eq_true rfl) dX7_rule_44 (fun M44 q44 => ?_)
        obtain ⟨f44, w44⟩ := q44
        have hS2 : ztab M44 1 S := ztab_fr hS f44 (by decide) (by decide)
        have hr2 : zrl M44 1 x y = zo (S (3 * s0 + a0)) := by rw [hxs, hya, zrl_nI hs0 ha0]; exact hS2.1 _ (by omega)
        refine zz_aload_n (pc := 47) E dX7_rule_47 rfl ?_
        refine zz_gf (pc := 48) E 0 (by decide) rfl rfl inX7_rule_X7 0 (by decide) lkX7_rule_12 (fun _ h => h) rfl dX7_rule_48 ?_
        refine zz_iload_n (pc := 51) E dX7_rule_51 rfl ?_
        refine zz_iload_n (pc := 52) E dX7_rule_52 rfl ?_
        refine zz_ciV (pc := 53) E 1 (kkX6_ruleOf l G hJ _ _ zz_T1 _ _) (cwV 2 hts gX7_rule_X6_ruleOf rfl rfl rfl (by decide +kernel) ⟨Nat.le_of_ble_eq_true rfl, Nat.le_of_ble_eq_true rfl⟩) (by decide) rfl rfl rfl rfl (Nat.le_of_ble_eq_true rfl) dX7_rule_53 (fun r53 M53 q53 => ?_)
        obtain ⟨rfl, rfl⟩ := q53
        refine zz_eqi (y := zo (S (3 * s0 + a0))) hr2 ?_
        refine zz_istore (pc := 56) (lv' := [(0, _), (1, _), (2, _), (3, _), (4, _)]) E dX7_rule_56 (by decide) rfl ?_
        refine zz_aload_n (pc := 58) E dX7_rule_58 rfl ?_
        refine zz_gf (pc := 59) E 0 (by decide) rfl rfl inX7_rule_X7 0 (by decide) lkX7_rule_12 (fun _ h => h) rfl dX7_rule_59 ?_
        refine zz_iload_n (pc := 62) E dX7_rule_62 rfl ?_
        refine zz_eqi (y := nI s0) hxs ?_
        refine zz_iload_n (pc := 63) E dX7_rule_63 rfl ?_
        refine zz_eqi (y := nI a0) hya ?_
        refine zz_iload_n (pc := 64) E dX7_rule_64 rfl ?_
        refine zz_cvV (pc := 65) E 1 (kkX6_setRule l G hJ _ _ zz_T1 s0 a0 _ hs0 ha0) (cwV 3 hts gX7_rule_X6_setRule rfl rfl rfl (by decide +kernel) ⟨Nat.le_of_ble_eq_true rfl, Nat.le_of_ble_eq_true rfl⟩) (by decide) rfl rfl rfl rfl (Nat.le_of_ble_eq_true rfl) dX7_rule_65 (fun M65 q65 => ?_)
        obtain rfl := q65
        refine zz_iload (pc := 68) E dX7_rule_68 rfl ?_
        exact zz_iret (pc := 70) E hr hlk dX7_rule_70 ⟨zlo_up (zfr_lo f44 zKP_lo) (by decide), by rw [hsp], by rw [hsp]; exact ⟨zV_rule hV (by omega) (fun a ha => (zin_ok hzz (by decide) ha).1), zkp_V hV hh, ztab_rule hS2 (by omega) (zo_zin hzz (by decide)), _, zpast_fr (ks := [2]) w44 (zfr_up (zfr_rf _ _) (by simp)) (by decide)⟩⟩
      · refine zz_iload_n (pc := 22) E dX7_rule_22 rfl ?_
        refine zz_i2l (pc := 23) E dX7_rule_23 rfl ?_
        refine zz_bipush (pc := 24) (v := nI 6) E dX7_rule_24 (by decide) ?_
        refine zz_iconst (pc := 26) (v := nI 3) E dX7_rule_26 (by decide) ?_
        refine zz_ciS (pc := 27) E (kkX7_isRow l G hJ _ _ _ _ (by decide) (by decide)) (va_cwS 3 hts gX7_rule_X7_isRow rfl rfl rfl (by decide +kernel) ⟨Nat.le_of_ble_eq_true rfl, Nat.le_of_ble_eq_true rfl⟩) rfl rfl (Nat.le_of_ble_eq_true rfl) dX7_rule_27 (fun r27 M27 q27 => ?_)
        obtain ⟨rfl, rfl⟩ := q27
        refine zb_if_ne (pc := 30) (tgt := 36) E dX7_rule_30 (by decide) (fun h30 => ?_) (fun h30 => ?_)
        · have hzz : (decide (z = -9) || zs_row z.toInt64 6 3) = true := by rw [h30, Bool.or_true]
          have hsp : sp_rule S hs x y z = (zo (S (3 * s0 + a0)), zvu S (3 * s0 + a0) (zin z), zkp S hs) := by unfold sp_rule; rw [if_pos (by rw [h4, h11]; rfl), if_pos hzz, hxn, hyn]
          refine zz_aload_n (pc := 36) E dX7_rule_36 rfl ?_
          refine zz_gf (pc := 37) E 0 (by decide) rfl rfl inX7_rule_X7 1 (by decide) lkX7_rule_21 (fun _ h => h) rfl dX7_rule_37 ?_
          refine zz_aload_n (pc := 40) E dX7_rule_40 rfl ?_
          refine zz_gf (pc := 41) E 0 (by decide) rfl rfl inX7_rule_X7 0 (by decide) lkX7_rule_12 (fun _ h => h) rfl dX7_rule_41 ?_
          refine zz_cvV (pc := 44) E 4 (kkX3_keep l G hJ _  nx hs S hp hS) (cwV 1 hts gX7_rule_X3_keep rfl rfl rfl (by decide +kernel) ⟨Nat.le_of_ble_eq_true rfl, Nat.le_of_ble_eq_true rfl⟩) (by decide) rfl rfl rfl rfl (Nat.le_of_ble_eq_true rfl) dX7_rule_44 (fun M44 q44 => ?_)
          obtain ⟨f44, w44⟩ := q44
          have hS2 : ztab M44 1 S := ztab_fr hS f44 (by decide) (by decide)
          have hr2 : zrl M44 1 x y = zo (S (3 * s0 + a0)) := by rw [hxs, hya, zrl_nI hs0 ha0]; exact hS2.1 _ (by omega)
          refine zz_aload_n (pc := 47) E dX7_rule_47 rfl ?_
          refine zz_gf (pc := 48) E 0 (by decide) rfl rfl inX7_rule_X7 0 (by decide) lkX7_rule_12 (fun _ h => h) rfl dX7_rule_48 ?_
          refine zz_iload_n (pc := 51) E dX7_rule_51 rfl ?_
          refine zz_iload_n (pc := 52) E dX7_rule_52 rfl ?_
          refine zz_ciV (pc := 53) E 1 (kkX6_ruleOf l G hJ _ _ zz_T1 _ _) (cwV 2 hts gX7_rule_X6_ruleOf rfl rfl rfl (by decide +kernel) ⟨Nat.le_of_ble_eq_true rfl, Nat.le_of_ble_eq_true rfl⟩) (by decide) rfl rfl rfl rfl (Nat.le_of_ble_eq_true rfl) dX7_rule_53 (fun r53 M53 q53 => ?_)
          obtain ⟨rfl, rfl⟩ := q53
          refine zz_eqi (y := zo (S (3 * s0 + a0))) hr2 ?_
          refine zz_istore (pc := 56) (lv' := [(0, _), (1, _), (2, _), (3, _), (4, _)]) E dX7_rule_56 (by decide) rfl ?_
          refine zz_aload_n (pc := 58) E dX7_rule_58 rfl ?_
          refine zz_gf (pc := 59) E 0 (by decide) rfl rfl inX7_rule_X7 0 (by decide) lkX7_rule_12 (fun _ h => h) rfl dX7_rule_59 ?_
          refine zz_iload_n (pc := 62) E dX7_rule_62 rfl ?_
          refine zz_eqi (y := nI s0) hxs ?_
          refine zz_iload_n (pc := 63) E dX7_rule_63 rfl ?_
          refine zz_eqi (y := nI a0) hya ?_
          refine zz_iload_n (pc := 64) E dX7_rule_64 rfl ?_
          refine zz_cvV (pc := 65) E 1 (kkX6_setRule l G hJ _ _ zz_T1 s0 a0 _ hs0 ha0) (cwV 3 hts gX7_rule_X6_setRule rfl rfl rfl (by decide +kernel) ⟨Nat.le_of_ble_eq_true rfl, Nat.le_of_ble_eq_true rfl⟩) (by decide) rfl rfl rfl rfl (Nat.le_of_ble_eq_true rfl) dX7_rule_65 (fun M65 q65 => ?_)
          obtain rfl := q65
          refine zz_iload (pc := 68) E dX7_rule_68 rfl ?_
          exact zz_iret (pc := 70) E hr hlk dX7_rule_70 ⟨zlo_up (zfr_lo f44 zKP_lo) (by decide), by rw [hsp], by rw [hsp]; exact ⟨zV_rule hV (by omega) (fun a ha => (zin_ok hzz (by decide) ha).1), zkp_V hV hh, ztab_rule hS2 (by omega) (zo_zin hzz (by decide)), _, zpast_fr (ks := [2]) w44 (zfr_up (zfr_rf _ _) (by simp)) (by decide)⟩⟩
        · have hsp : sp_rule S hs x y z = (-2, S, hs) := by unfold sp_rule; rw [if_pos (by rw [h4, h11]; rfl), if_neg (by rw [decide_eq_false h19, h30]; simp)]
          refine zz_bipush (pc := 33) (v := -2) E dX7_rule_33 (by decide) ?_
          exact zz_iret (pc := 35) E hr hlk dX7_rule_35 ⟨zI_lo_rf _, by rw [hsp], by rw [hsp]; exact hI⟩
    · have hsp : sp_rule S hs x y z = (-1, S, hs) := by unfold sp_rule; rw [if_neg (by rw [h11]; simp)]
      refine zz_iconst (pc := 14) (v := -1) E dX7_rule_14 (by decide) ?_
      exact zz_iret (pc := 15) E hr hlk dX7_rule_15 ⟨zI_lo_rf _, by rw [hsp], by rw [hsp]; exact hI⟩

theorem inX7_ofRule_X7 : ∀ w ∈ u_ws RX7 TX7 8, w ∈ wsX7_ofRule := by decide +kernel
theorem lkX7_ofRule_12 : Cond.fieldLink RX7 12 RX7 "table" "LFirstSigns$Table;" ∈ wsX7_ofRule := by decide +kernel
set_option maxHeartbeats 4000000 in
set_option maxRecDepth 100000 in
theorem kkX7_ofRule (l : Launch) (G : zz_C) (hJ : zz_J G) (M : zz_M) (S : Nat → Option Nat) (hs : List (Nat → Option Nat)) (x y : Int32) (hI : zI M S hs) : Met l yX7_ofRule wsX7_ofRule ({ frames := 2, cells := 0, slots := 0, locals := 42 } : Room) (zz_P G M [.ref (G.2.2 0), .int x, .int y]) (zz_Qi G (fun r M1 => zlo M M1 ∧ zI M1 S hs ∧ r = sp_ofRule S x y)) 0 0 (zz_A G) := by
  refine zz_start hJ (by decide) rfl (Nat.le_of_ble_eq_true rfl) ?_
  intro p e s m below meth c E hr hlk
  have hts := E.2.2.2.2.1
  show zz_Z p l e (headSpec wsX7_ofRule ({ frames := 2, cells := 0, slots := 0, locals := 42 } : Room)).room s m ([.ref (G.2.2 0), .int x, .int y] : List Value).toArray below meth c 0 0 (MQ below (zz_Qi G (fun r M1 => zlo M M1 ∧ zI M1 S hs ∧ r = sp_ofRule S x y)) ([.ref (G.2.2 0), .int x, .int y] : List Value).toArray s 0 0 (zz_A G)) 3 G (zz_A G) M 0 [(0, .ref (G.2.2 0)), (1, .int x), (2, .int y)] []
  refine zz_iload_n (pc := 0) E dX7_ofRule_0 rfl ?_
  refine zz_ciS (pc := 1) E (kkX7_isSign l G hJ _ _ ) (va_cwS 1 hts gX7_ofRule_X7_isSign rfl rfl rfl (by decide +kernel) ⟨Nat.le_of_ble_eq_true rfl, Nat.le_of_ble_eq_true rfl⟩) rfl rfl (Nat.le_of_ble_eq_true rfl) dX7_ofRule_1 (fun r1 M1 q1 => ?_)
  obtain ⟨rfl, rfl⟩ := q1
  refine zb_if_eq (pc := 4) (tgt := 26) E dX7_ofRule_4 (by decide) (fun h4 => ?_) (fun h4 => ?_)
  · have hsp : sp_ofRule S x y = -1 := by unfold sp_ofRule; rw [if_neg (by rw [h4]; simp)]
    refine zz_iconst (pc := 26) (v := -1) E dX7_ofRule_26 (by decide) ?_
    exact zz_iret (pc := 27) E hr hlk dX7_ofRule_27 ⟨zI_lo_rf _, hI, by rw [hsp]⟩
  · refine zz_iload_n (pc := 7) E dX7_ofRule_7 rfl ?_
    refine zz_ciS (pc := 8) E (kkX7_isLetter l G hJ _ _ ) (va_cwS 1 hts gX7_ofRule_X7_isLetter rfl rfl rfl (by decide +kernel) ⟨Nat.le_of_ble_eq_true rfl, Nat.le_of_ble_eq_true rfl⟩) rfl rfl (Nat.le_of_ble_eq_true rfl) dX7_ofRule_8 (fun r8 M8 q8 => ?_)
    obtain ⟨rfl, rfl⟩ := q8
    refine zb_if_eq (pc := 11) (tgt := 26) E dX7_ofRule_11 (by decide) (fun h11 => ?_) (fun h11 => ?_)
    · have hsp : sp_ofRule S x y = -1 := by unfold sp_ofRule; rw [if_neg (by rw [h11]; simp)]
      refine zz_iconst (pc := 26) (v := -1) E dX7_ofRule_26 (by decide) ?_
      exact zz_iret (pc := 27) E hr hlk dX7_ofRule_27 ⟨zI_lo_rf _, hI, by rw [hsp]⟩
    · obtain ⟨s0, hs0, hxs⟩ := zp_in_of h4 (by decide)
      obtain ⟨a0, ha0, hya⟩ := zp_in_of h11 (by decide)
      have hsp : sp_ofRule S x y = zrl M 1 x y := by unfold sp_ofRule; rw [if_pos (by rw [h4, h11]; rfl), hxs, hya, nI_nat (by omega), nI_nat (by omega), zrl_nI hs0 ha0]; exact (hI.2.2.1.1 _ (by omega)).symm
      refine zz_aload_n (pc := 14) E dX7_ofRule_14 rfl ?_
      refine zz_gf (pc := 15) E 0 (by decide) rfl rfl inX7_ofRule_X7 0 (by decide) lkX7_ofRule_12 (fun _ h => h) rfl dX7_ofRule_15 ?_
      refine zz_iload_n (pc := 18) E dX7_ofRule_18 rfl ?_
      refine zz_iload_n (pc := 19) E dX7_ofRule_19 rfl ?_
      refine zz_ciV (pc := 20) E 1 (kkX6_ruleOf l G hJ _ _ zz_T1 _ _) (cwV 2 hts gX7_ofRule_X6_ruleOf rfl rfl rfl (by decide +kernel) ⟨Nat.le_of_ble_eq_true rfl, Nat.le_of_ble_eq_true rfl⟩) (by decide) rfl rfl rfl rfl (Nat.le_of_ble_eq_true rfl) dX7_ofRule_20 (fun r20 M20 q20 => ?_)
      obtain ⟨rfl, rfl⟩ := q20
      refine zz_goto (pc := 23) (tgt := 27) E dX7_ofRule_23 (by decide) ?_
      exact zz_iret (pc := 27) E hr hlk dX7_ofRule_27 ⟨zI_lo_rf _, hI, by rw [hsp]⟩

theorem inX7_read_X7 : ∀ w ∈ u_ws RX7 TX7 8, w ∈ wsX7_read := by decide +kernel
theorem lkX7_read_28 : Cond.fieldLink RX7 28 RX7 "reader" "LFirstSigns$Reader;" ∈ wsX7_read := by decide +kernel
theorem lkX7_read_12 : Cond.fieldLink RX7 12 RX7 "table" "LFirstSigns$Table;" ∈ wsX7_read := by decide +kernel
theorem inX7_read_X4 : ∀ w ∈ u_ws RX4 TX4 2, w ∈ wsX7_read := by decide +kernel
theorem lkX7_read_95 : Cond.fieldLink RX7 95 RX4 "left" "LFirstSigns$Row;" ∈ wsX7_read := by decide +kernel
set_option maxHeartbeats 4000000 in
set_option maxRecDepth 100000 in
theorem kkX7_read (l : Launch) (G : zz_C) (hJ : zz_J G) (M : zz_M) (S : Nat → Option Nat) (hs : List (Nat → Option Nat)) (x : Int32) (y : Int64) (w : Int32) (hI : zI M S hs) : Met l yX7_read wsX7_read ({ frames := 4, cells := 0, slots := 0, locals := 93 } : Room) (zz_P G M [.ref (G.2.2 0), .int x, .long y, .int w]) (zz_Qi G (fun r M1 => zlo M M1 ∧ zI M1 S hs ∧ r = sp_read S x y w)) 0 0 (zz_A G) := by
  refine zz_start hJ (by decide) rfl (Nat.le_of_ble_eq_true rfl) ?_
  intro p e s m below meth c E hr hlk
  have hts := E.2.2.2.2.1
  show zz_Z p l e (headSpec wsX7_read ({ frames := 4, cells := 0, slots := 0, locals := 93 } : Room)).room s m ([.ref (G.2.2 0), .int x, .long y, .int w] : List Value).toArray below meth c 0 0 (MQ below (zz_Qi G (fun r M1 => zlo M M1 ∧ zI M1 S hs ∧ r = sp_read S x y w)) ([.ref (G.2.2 0), .int x, .long y, .int w] : List Value).toArray s 0 0 (zz_A G)) 6 G (zz_A G) M 0 [(0, .ref (G.2.2 0)), (1, .int x), (2, .long y), (4, .int w)] []
  obtain ⟨hV, hh, hS, nx, hp⟩ := id hI
  refine zz_iload_n (pc := 0) E dX7_read_0 rfl ?_
  refine zz_ciS (pc := 1) E (kkX7_isRowOfSigns l G hJ _ _ ) (va_cwS 1 hts gX7_read_X7_isRowOfSigns rfl rfl rfl (by decide +kernel) ⟨Nat.le_of_ble_eq_true rfl, Nat.le_of_ble_eq_true rfl⟩) rfl rfl (Nat.le_of_ble_eq_true rfl) dX7_read_1 (fun r1 M1 q1 => ?_)
  obtain ⟨rfl, rfl⟩ := q1
  refine zb_if_eq (pc := 4) (tgt := 28) E dX7_read_4 (by decide) (fun h4 => ?_) (fun h4 => ?_)
  · have hsp : sp_read S x y w = -2 := by unfold sp_read; rw [if_neg (by rw [h4]; simp)]
    refine zz_bipush (pc := 28) (v := -2) E dX7_read_28 (by decide) ?_
    exact zz_iret (pc := 30) E hr hlk dX7_read_30 ⟨zI_lo_rf _, hI, by rw [hsp]⟩
  · refine zz_lload_n (pc := 7) E dX7_read_7 rfl ?_
    refine zz_iconst (pc := 8) (v := nI 3) E dX7_read_8 (by decide) ?_
    refine zz_bipush (pc := 9) (v := nI 12) E dX7_read_9 (by decide) ?_
    refine zz_ciS (pc := 11) E (kkX7_isRow l G hJ _ _ _ _ (by decide) (by decide)) (va_cwS 3 hts gX7_read_X7_isRow rfl rfl rfl (by decide +kernel) ⟨Nat.le_of_ble_eq_true rfl, Nat.le_of_ble_eq_true rfl⟩) rfl rfl (Nat.le_of_ble_eq_true rfl) dX7_read_11 (fun r11 M11 q11 => ?_)
    obtain ⟨rfl, rfl⟩ := q11
    refine zb_if_eq (pc := 14) (tgt := 28) E dX7_read_14 (by decide) (fun h14 => ?_) (fun h14 => ?_)
    · have hsp : sp_read S x y w = -2 := by unfold sp_read; rw [if_neg (by rw [h14]; simp)]
      refine zz_bipush (pc := 28) (v := -2) E dX7_read_28 (by decide) ?_
      exact zz_iret (pc := 30) E hr hlk dX7_read_30 ⟨zI_lo_rf _, hI, by rw [hsp]⟩
    · refine zz_iload (pc := 17) E dX7_read_17 rfl ?_
      refine zz_if_lt (pc := 19) (tgt := 28) E dX7_read_19 (by decide) (fun h19 => ?_) (fun h19 => ?_)
      · have hsp : sp_read S x y w = -2 := by unfold sp_read; rw [if_neg (by rw [zp_in_f1 h19]; simp)]
        refine zz_bipush (pc := 28) (v := -2) E dX7_read_28 (by decide) ?_
        exact zz_iret (pc := 30) E hr hlk dX7_read_30 ⟨zI_lo_rf _, hI, by rw [hsp]⟩
      · refine zz_iload (pc := 22) E dX7_read_22 rfl ?_
        refine zz_iconst (pc := 24) (v := nI 3) E dX7_read_24 (by decide) ?_
        refine zz_icmp_le (pc := 25) (tgt := 31) E dX7_read_25 (by decide) (fun h25 => ?_) (fun h25 => ?_)
        · obtain ⟨a, hxa, hza, han, ha9, ha31⟩ := zs_row_of h4 (by decide)
          obtain ⟨d, hyd, hzd, hdn, hd12⟩ := zs_row_ofL h14 (by decide)
          have hw4 := zp_w3t h19 h25
          obtain ⟨u, hu, hwu⟩ := zp_in_of hw4 (by decide)
          have hsp : sp_read S x y w = zrdw (zrd S (zr a) (zr d)) (zr d).length u := by
            unfold sp_read
            rw [if_pos (by rw [h4, h14, hw4]; rfl), ← han, ← hdn, hwu, nI_nat (by omega)]
          refine zz_aload_n (pc := 31) E dX7_read_31 rfl ?_
          refine zz_gf (pc := 32) E 0 (by decide) rfl rfl inX7_read_X7 2 (by decide) lkX7_read_28 (fun _ h => h) rfl dX7_read_32 ?_
          refine zz_aload_n (pc := 35) E dX7_read_35 rfl ?_
          refine zz_gf (pc := 36) E 0 (by decide) rfl rfl inX7_read_X7 0 (by decide) lkX7_read_12 (fun _ h => h) rfl dX7_read_36 ?_
          refine zz_iload_n (pc := 39) E dX7_read_39 rfl ?_
          refine zz_eqi (y := nI a) hxa ?_
          refine zz_lload_n (pc := 40) E dX7_read_40 rfl ?_
          refine zz_eql (y := lN d) hyd ?_
          refine zz_ciV (pc := 41) E 6 (kkX4_countRead l G hJ _  S a d hV hS hza hzd) (cwV 3 hts gX7_read_X4_countRead rfl rfl rfl (by decide +kernel) ⟨Nat.le_of_ble_eq_true rfl, Nat.le_of_ble_eq_true rfl⟩) (by decide) rfl rfl rfl rfl (Nat.le_of_ble_eq_true rfl) dX7_read_41 (fun r41 M41 q41 => ?_)
          obtain ⟨f41, rfl, w41, v41⟩ := q41
          refine zz_istore (pc := 44) (lv' := [(0, _), (1, _), (2, _), (4, _), (5, _)]) E dX7_read_44 (by decide) rfl ?_
          have hI2 := zI_fr hI f41 (by decide)
          have hlo := zfr_lo f41 (by decide)
          have hle := zrd_le S (zr d) (zr a)
          refine zz_iload (pc := 46) E dX7_read_46 rfl ?_
          refine zz_eqi (y := nI u) hwu ?_
          obtain rfl | rfl | rfl | rfl : u = 0 ∨ u = 1 ∨ u = 2 ∨ u = 3 := by omega
          · refine zz_tableIn (tgt := 76) E dX7_read_48 (by decide) (by decide) (by rfl) (by decide) ?_
            refine zz_iload (pc := 76) E dX7_read_76 rfl ?_
            exact zz_iret (pc := 78) E hr hlk dX7_read_78 ⟨hlo, hI2, by rw [hsp]; rfl⟩
          · refine zz_tableIn (tgt := 79) E dX7_read_48 (by decide) (by decide) (by rfl) (by decide) ?_
            refine zz_aload_n (pc := 79) E dX7_read_79 rfl ?_
            refine zz_gf (pc := 80) E 0 (by decide) rfl rfl inX7_read_X7 2 (by decide) lkX7_read_28 (fun _ h => h) rfl dX7_read_80 ?_
            refine zz_gf (pc := 83) E 6 (by decide) rfl rfl inX7_read_X4 0 (by decide) lkX7_read_95 (fun _ h => h) rfl dX7_read_83 ?_
            refine zz_ciV (pc := 86) E 7 (kkX5_size l G hJ _ _ _ zz_R7) (cwV 0 hts gX7_read_X5_size rfl rfl rfl (by decide +kernel) ⟨Nat.le_of_ble_eq_true rfl, Nat.le_of_ble_eq_true rfl⟩) (by decide) rfl rfl rfl rfl (Nat.le_of_ble_eq_true rfl) dX7_read_86 (fun r86 M86 q86 => ?_)
            obtain ⟨rfl, rfl⟩ := q86
            exact zz_iret (pc := 89) E hr hlk dX7_read_89 ⟨hlo, hI2, by rw [hsp, w41.1]; rfl⟩
          · refine zz_tableIn (tgt := 90) E dX7_read_48 (by decide) (by decide) (by rfl) (by decide) ?_
            refine zz_aload_n (pc := 90) E dX7_read_90 rfl ?_
            refine zz_gf (pc := 91) E 0 (by decide) rfl rfl inX7_read_X7 2 (by decide) lkX7_read_28 (fun _ h => h) rfl dX7_read_91 ?_
            refine zz_gf (pc := 94) E 6 (by decide) rfl rfl inX7_read_X4 0 (by decide) lkX7_read_95 (fun _ h => h) rfl dX7_read_94 ?_
            refine zz_iconst (pc := 97) (v := nI 0) E dX7_read_97 (by decide) ?_
            refine zz_ciV (pc := 98) E 7 (kkX5_fromFirst l G hJ _ _ _ zz_R7 0 _ w41 (by decide)) (cwV 1 hts gX7_read_X5_fromFirst rfl rfl rfl (by decide +kernel) ⟨Nat.le_of_ble_eq_true rfl, Nat.le_of_ble_eq_true rfl⟩) (by decide) rfl rfl rfl rfl (Nat.le_of_ble_eq_true rfl) dX7_read_98 (fun r98 M98 q98 => ?_)
            obtain ⟨rfl, rfl⟩ := q98
            exact zz_iret (pc := 101) E hr hlk dX7_read_101 ⟨hlo, hI2, by rw [hsp]; rfl⟩
          · refine zz_tableOut (tgt := 102) E dX7_read_48 (by decide) (by decide) ?_
            refine zz_aload_n (pc := 102) E dX7_read_102 rfl ?_
            refine zz_gf (pc := 103) E 0 (by decide) rfl rfl inX7_read_X7 2 (by decide) lkX7_read_28 (fun _ h => h) rfl dX7_read_103 ?_
            refine zz_ciV (pc := 106) E 6 (kkX4_readsToEnd l G hJ _  _ v41) (cwV 0 hts gX7_read_X4_readsToEnd rfl rfl rfl (by decide +kernel) ⟨Nat.le_of_ble_eq_true rfl, Nat.le_of_ble_eq_true rfl⟩) (by decide) rfl rfl rfl rfl (Nat.le_of_ble_eq_true rfl) dX7_read_106 (fun r106 M106 q106 => ?_)
            obtain ⟨rfl, rfl⟩ := q106
            refine zb_if_eq (pc := 109) (tgt := 129) E dX7_read_109 (by decide) (fun h109 => ?_) (fun h109 => ?_)
            · have hq : zz_b (decide ((zrd S (zr a) (zr d)).1 = (zr d).length) && decide ((zrd S (zr a) (zr d)).2.length = 0)) = 0 := by
                rw [decide_eq_false_iff_not, List.length_drop] at h109
                rw [decide_eq_false (by omega)]
                rfl
              refine zz_iconst (pc := 129) (v := nI 0) E dX7_read_129 (by decide) ?_
              exact zz_iret (pc := 130) E hr hlk dX7_read_130 ⟨hlo, hI2, by rw [hsp]; exact hq.symm⟩
            · rw [decide_eq_true_iff, List.length_drop] at h109
              have hlen := w41.2.1
              refine zz_aload_n (pc := 112) E dX7_read_112 rfl ?_
              refine zz_gf (pc := 113) E 0 (by decide) rfl rfl inX7_read_X7 2 (by decide) lkX7_read_28 (fun _ h => h) rfl dX7_read_113 ?_
              refine zz_gf (pc := 116) E 6 (by decide) rfl rfl inX7_read_X4 0 (by decide) lkX7_read_95 (fun _ h => h) rfl dX7_read_116 ?_
              refine zz_ciV (pc := 119) E 7 (kkX5_size l G hJ _ _ _ zz_R7) (cwV 0 hts gX7_read_X5_size rfl rfl rfl (by decide +kernel) ⟨Nat.le_of_ble_eq_true rfl, Nat.le_of_ble_eq_true rfl⟩) (by decide) rfl rfl rfl rfl (Nat.le_of_ble_eq_true rfl) dX7_read_119 (fun r119 M119 q119 => ?_)
              obtain ⟨rfl, rfl⟩ := q119
              refine zz_eqi (y := nI (zrd S (zr a) (zr d)).2.length) w41.1 ?_
              refine zn_if_ne (pc := 122) (tgt := 129) E dX7_read_122 (by decide) (by omega) (fun h122 => ?_) (fun h122 => ?_)
              · have hq : zz_b (decide ((zrd S (zr a) (zr d)).1 = (zr d).length) && decide ((zrd S (zr a) (zr d)).2.length = 0)) = 0 := by
                  rw [decide_eq_false h122, Bool.and_false]
                  rfl
                refine zz_iconst (pc := 129) (v := nI 0) E dX7_read_129 (by decide) ?_
                exact zz_iret (pc := 130) E hr hlk dX7_read_130 ⟨hlo, hI2, by rw [hsp]; exact hq.symm⟩
              · have hq : zz_b (decide ((zrd S (zr a) (zr d)).1 = (zr d).length) && decide ((zrd S (zr a) (zr d)).2.length = 0)) = 1 := by
                  rw [decide_eq_true h122, decide_eq_true (by omega)]
                  rfl
                refine zz_iconst (pc := 125) (v := nI 1) E dX7_read_125 (by decide) ?_
                refine zz_goto (pc := 126) (tgt := 130) E dX7_read_126 (by decide) ?_
                exact zz_iret (pc := 130) E hr hlk dX7_read_130 ⟨hlo, hI2, by rw [hsp]; exact hq.symm⟩
        · have hsp : sp_read S x y w = -2 := by unfold sp_read; rw [if_neg (by rw [zp_w3 h25]; simp)]
          refine zz_bipush (pc := 28) (v := -2) E dX7_read_28 (by decide) ?_
          exact zz_iret (pc := 30) E hr hlk dX7_read_30 ⟨zI_lo_rf _, hI, by rw [hsp]⟩

theorem inX7_norm_X7 : ∀ w ∈ u_ws RX7 TX7 8, w ∈ wsX7_norm := by decide +kernel
theorem lkX7_norm_35 : Cond.fieldLink RX7 35 RX7 "norms" "LFirstSigns$Norms;" ∈ wsX7_norm := by decide +kernel
theorem lkX7_norm_12 : Cond.fieldLink RX7 12 RX7 "table" "LFirstSigns$Table;" ∈ wsX7_norm := by decide +kernel
set_option maxHeartbeats 4000000 in
set_option maxRecDepth 100000 in
theorem kkX7_norm (l : Launch) (G : zz_C) (hJ : zz_J G) (M : zz_M) (S : Nat → Option Nat) (hs : List (Nat → Option Nat)) (x : Int32) (hI : zI M S hs) : Met l yX7_norm wsX7_norm ({ frames := 6, cells := 0, slots := 0, locals := 139 } : Room) (zz_P G M [.ref (G.2.2 0), .int x]) (zz_Qi G (fun r M1 => zlo M M1 ∧ zI M1 S hs ∧ r = sp_norm S x)) 0 0 (zz_A G) := by
  refine zz_start hJ (by decide) rfl (Nat.le_of_ble_eq_true rfl) ?_
  intro p e s m below meth c E hr hlk
  have hts := E.2.2.2.2.1
  show zz_Z p l e (headSpec wsX7_norm ({ frames := 6, cells := 0, slots := 0, locals := 139 } : Room)).room s m ([.ref (G.2.2 0), .int x] : List Value).toArray below meth c 0 0 (MQ below (zz_Qi G (fun r M1 => zlo M M1 ∧ zI M1 S hs ∧ r = sp_norm S x)) ([.ref (G.2.2 0), .int x] : List Value).toArray s 0 0 (zz_A G)) 2 G (zz_A G) M 0 [(0, .ref (G.2.2 0)), (1, .int x)] []
  refine zz_iload_n (pc := 0) E dX7_norm_0 rfl ?_
  refine zz_ciS (pc := 1) E (kkX7_isRowOfSigns l G hJ _ _ ) (va_cwS 1 hts gX7_norm_X7_isRowOfSigns rfl rfl rfl (by decide +kernel) ⟨Nat.le_of_ble_eq_true rfl, Nat.le_of_ble_eq_true rfl⟩) rfl rfl (Nat.le_of_ble_eq_true rfl) dX7_norm_1 (fun r1 M1 q1 => ?_)
  obtain ⟨rfl, rfl⟩ := q1
  refine zb_if_ne (pc := 4) (tgt := 10) E dX7_norm_4 (by decide) (fun h4 => ?_) (fun h4 => ?_)
  · obtain ⟨a, hxa, hza, han, ha9, ha31⟩ := zs_row_of h4 (by decide)
    have hsp : sp_norm S x = zo (znorm (zit S 36) (zr a)) := by unfold sp_norm; rw [if_pos h4, ← han]
    refine zz_aload_n (pc := 10) E dX7_norm_10 rfl ?_
    refine zz_gf (pc := 11) E 0 (by decide) rfl rfl inX7_norm_X7 3 (by decide) lkX7_norm_35 (fun _ h => h) rfl dX7_norm_11 ?_
    refine zz_aload_n (pc := 14) E dX7_norm_14 rfl ?_
    refine zz_gf (pc := 15) E 0 (by decide) rfl rfl inX7_norm_X7 0 (by decide) lkX7_norm_12 (fun _ h => h) rfl dX7_norm_15 ?_
    refine zz_cvV (pc := 18) E 11 (kkX2_find l G hJ _  S hI.1 hI.2.2.1) (cwV 1 hts gX7_norm_X2_find rfl rfl rfl (by decide +kernel) ⟨Nat.le_of_ble_eq_true rfl, Nat.le_of_ble_eq_true rfl⟩) (by decide) rfl rfl rfl rfl (Nat.le_of_ble_eq_true rfl) dX7_norm_18 (fun M18 q18 => ?_)
    obtain ⟨f18, w18⟩ := q18
    refine zz_aload_n (pc := 21) E dX7_norm_21 rfl ?_
    refine zz_gf (pc := 22) E 0 (by decide) rfl rfl inX7_norm_X7 3 (by decide) lkX7_norm_35 (fun _ h => h) rfl dX7_norm_22 ?_
    refine zz_iload_n (pc := 25) E dX7_norm_25 rfl ?_
    refine zz_eqi (y := nI a) hxa ?_
    refine zz_ciV (pc := 26) E 11 (kkX2_ofRow l G hJ _  (zit S 36) a 6 9 364 w18 (zit_bd hI.1 36) (by decide) hza (by decide)) (cwV 1 hts gX7_norm_X2_ofRow rfl rfl rfl (by decide +kernel) ⟨Nat.le_of_ble_eq_true rfl, Nat.le_of_ble_eq_true rfl⟩) (by decide) rfl rfl rfl rfl (Nat.le_of_ble_eq_true rfl) dX7_norm_26 (fun r26 M26 q26 => ?_)
    obtain ⟨rfl, rfl⟩ := q26
    exact zz_iret (pc := 29) E hr hlk dX7_norm_29 ⟨zfr_lo f18 (by decide), zI_fr hI f18 (by decide), by rw [hsp]⟩
  · have hsp : sp_norm S x = -2 := by unfold sp_norm; rw [if_neg (by rw [h4]; simp)]
    refine zz_bipush (pc := 7) (v := -2) E dX7_norm_7 (by decide) ?_
    exact zz_iret (pc := 9) E hr hlk dX7_norm_9 ⟨zI_lo_rf _, hI, by rw [hsp]⟩

theorem inX7_least_X7 : ∀ w ∈ u_ws RX7 TX7 8, w ∈ wsX7_least := by decide +kernel
theorem lkX7_least_35 : Cond.fieldLink RX7 35 RX7 "norms" "LFirstSigns$Norms;" ∈ wsX7_least := by decide +kernel
theorem lkX7_least_12 : Cond.fieldLink RX7 12 RX7 "table" "LFirstSigns$Table;" ∈ wsX7_least := by decide +kernel
theorem clX7_least_118 : Cond.constantLong RX7 118 (-9) ∈ wsX7_least := by decide +kernel
theorem clX7_least_116 : Cond.constantLong RX7 116 (-9223372036854775808) ∈ wsX7_least := by decide +kernel
set_option maxHeartbeats 4000000 in
set_option maxRecDepth 100000 in
theorem kkX7_least (l : Launch) (G : zz_C) (hJ : zz_J G) (M : zz_M) (S : Nat → Option Nat) (hs : List (Nat → Option Nat)) (x : Int32) (hI : zI M S hs) : Met l yX7_least wsX7_least ({ frames := 6, cells := 0, slots := 0, locals := 142 } : Room) (zz_P G M [.ref (G.2.2 0), .int x]) (zz_Ql G (fun r M1 => zlo M M1 ∧ zI M1 S hs ∧ r = sp_least S x)) 0 0 (zz_A G) := by
  refine zz_start hJ (by decide) rfl (Nat.le_of_ble_eq_true rfl) ?_
  intro p e s m below meth c E hr hlk
  have hts := E.2.2.2.2.1
  show zz_Z p l e (headSpec wsX7_least ({ frames := 6, cells := 0, slots := 0, locals := 142 } : Room)).room s m ([.ref (G.2.2 0), .int x] : List Value).toArray below meth c 0 0 (MQ below (zz_Ql G (fun r M1 => zlo M M1 ∧ zI M1 S hs ∧ r = sp_least S x)) ([.ref (G.2.2 0), .int x] : List Value).toArray s 0 0 (zz_A G)) 3 G (zz_A G) M 0 [(0, .ref (G.2.2 0)), (1, .int x)] []
  refine zz_iload_n (pc := 0) E dX7_least_0 rfl ?_
  refine zz_ciS (pc := 1) E (kkX7_isRowOfSigns l G hJ _ _ ) (va_cwS 1 hts gX7_least_X7_isRowOfSigns rfl rfl rfl (by decide +kernel) ⟨Nat.le_of_ble_eq_true rfl, Nat.le_of_ble_eq_true rfl⟩) rfl rfl (Nat.le_of_ble_eq_true rfl) dX7_least_1 (fun r1 M1 q1 => ?_)
  obtain ⟨rfl, rfl⟩ := q1
  refine zb_if_ne (pc := 4) (tgt := 11) E dX7_least_4 (by decide) (fun h4 => ?_) (fun h4 => ?_)
  · obtain ⟨a, hxa, hza, han, ha9, ha31⟩ := zs_row_of h4 (by decide)
    have hsp : sp_least S x = match znorm (zit S 36) (zr a) with | none => -9 | some n => if n ≤ 12 then lN (zlw S (zit S 36) n (zr a) 0) else -9 := by unfold sp_least; rw [if_pos h4, ← han]; rfl
    have hlt : ∀ n, znorm (zit S 36) (zr a) = some n → n < 2 ^ 31 := fun n hn => by
      have h1 := znorm_le (zit_bd hI.1 36) (zr_lt hza) hn
      rw [zr_len] at h1
      have h2 := zok_len hza
      omega
    refine zz_aload_n (pc := 11) E dX7_least_11 rfl ?_
    refine zz_gf (pc := 12) E 0 (by decide) rfl rfl inX7_least_X7 3 (by decide) lkX7_least_35 (fun _ h => h) rfl dX7_least_12 ?_
    refine zz_aload_n (pc := 15) E dX7_least_15 rfl ?_
    refine zz_gf (pc := 16) E 0 (by decide) rfl rfl inX7_least_X7 0 (by decide) lkX7_least_12 (fun _ h => h) rfl dX7_least_16 ?_
    refine zz_cvV (pc := 19) E 11 (kkX2_find l G hJ _  S hI.1 hI.2.2.1) (cwV 1 hts gX7_least_X2_find rfl rfl rfl (by decide +kernel) ⟨Nat.le_of_ble_eq_true rfl, Nat.le_of_ble_eq_true rfl⟩) (by decide) rfl rfl rfl rfl (Nat.le_of_ble_eq_true rfl) dX7_least_19 (fun M19 q19 => ?_)
    obtain ⟨f19, w19⟩ := q19
    refine zz_aload_n (pc := 22) E dX7_least_22 rfl ?_
    refine zz_gf (pc := 23) E 0 (by decide) rfl rfl inX7_least_X7 3 (by decide) lkX7_least_35 (fun _ h => h) rfl dX7_least_23 ?_
    refine zz_iload_n (pc := 26) E dX7_least_26 rfl ?_
    refine zz_eqi (y := nI a) hxa ?_
    refine zz_ciV (pc := 27) E 11 (kkX2_ofRow l G hJ _  (zit S 36) a 6 9 364 w19 (zit_bd hI.1 36) (by decide) hza (by decide)) (cwV 1 hts gX7_least_X2_ofRow rfl rfl rfl (by decide +kernel) ⟨Nat.le_of_ble_eq_true rfl, Nat.le_of_ble_eq_true rfl⟩) (by decide) rfl rfl rfl rfl (Nat.le_of_ble_eq_true rfl) dX7_least_27 (fun r27 M27 q27 => ?_)
    obtain ⟨rfl, rfl⟩ := q27
    refine zz_istore_n (pc := 30) (lv' := [(0, _), (1, _), (2, _)]) E dX7_least_30 (by decide) rfl ?_
    refine zz_iload_n (pc := 31) E dX7_least_31 rfl ?_
    refine zz_bipush (pc := 32) (v := -9) E dX7_least_32 (by decide) ?_
    refine zz_icmp_eq (pc := 34) (tgt := 43) E dX7_least_34 (by decide) (fun h34 => ?_) (fun h34 => ?_)
    · rw [zo_m9 hlt] at h34
      rw [h34] at hsp
      refine zz_ldc2 (pc := 43) (v := (-9)) E clX7_least_118 dX7_least_43 ?_
      refine zz_goto (pc := 46) (tgt := 55) E dX7_least_46 (by decide) ?_
      exact zz_lret (pc := 55) E hr hlk dX7_least_55 (by first | exact ⟨zfr_lo (zfr_ct f19 f52 (ks := [12, 7, 8]) (by simp) (by simp)) (by decide), zI_fr hI (zfr_ct f19 f52 (ks := [12, 7, 8]) (by simp) (by simp)) (by decide), by rw [hsp]; exact (if_pos h40).symm⟩ | exact ⟨zfr_lo f19 (by decide), zI_fr hI f19 (by decide), by rw [hsp]⟩)
    · obtain ⟨n, hn⟩ : ∃ n, znorm (zit S 36) (zr a) = some n := by
        cases hv2 : znorm (zit S 36) (zr a) with
        | none => exact absurd (by rw [hv2]; rfl) h34
        | some n => exact ⟨n, rfl⟩
      have hn31 := hlt n hn
      rw [hn] at hsp
      refine zz_iload_n (pc := 37) E dX7_least_37 rfl ?_
      refine zz_eqi (y := nI n) (by rw [hn]; rfl) ?_
      refine zz_bipush (pc := 38) (v := nI 12) E dX7_least_38 (by decide) ?_
      refine zn_icmp_le (pc := 40) (tgt := 49) E dX7_least_40 (by decide) (by omega) (by omega) (fun h40 => ?_) (fun h40 => ?_)
      · refine zz_aload_n (pc := 49) E dX7_least_49 rfl ?_
        refine zz_iload_n (pc := 50) E dX7_least_50 rfl ?_
        refine zz_eqi (y := nI a) hxa ?_
        refine zz_iload_n (pc := 51) E dX7_least_51 rfl ?_
        refine zz_eqi (y := nI n) (by rw [hn]; rfl) ?_
        refine zz_clV (pc := 52) E 0 (kkX7_leastWord l G hJ _  S a n hI.1 (ztab_fr hI.2.2.1 f19 (by decide) (by decide)) w19 hza hn h40) (cwV 2 hts gX7_least_X7_leastWord rfl rfl rfl (by decide +kernel) ⟨Nat.le_of_ble_eq_true rfl, Nat.le_of_ble_eq_true rfl⟩) (by decide) rfl rfl rfl rfl (Nat.le_of_ble_eq_true rfl) dX7_least_52 (fun r52 M52 q52 => ?_)
        obtain ⟨f52, rfl⟩ := q52
        exact zz_lret (pc := 55) E hr hlk dX7_least_55 (by first | exact ⟨zfr_lo (zfr_ct f19 f52 (ks := [12, 7, 8]) (by simp) (by simp)) (by decide), zI_fr hI (zfr_ct f19 f52 (ks := [12, 7, 8]) (by simp) (by simp)) (by decide), by rw [hsp]; exact (if_pos h40).symm⟩ | exact ⟨zfr_lo f19 (by decide), zI_fr hI f19 (by decide), by rw [hsp]⟩)
      · have hsp : sp_least S x = -9 := by rw [hsp]; exact if_neg (by omega)
        refine zz_ldc2 (pc := 43) (v := (-9)) E clX7_least_118 dX7_least_43 ?_
        refine zz_goto (pc := 46) (tgt := 55) E dX7_least_46 (by decide) ?_
        exact zz_lret (pc := 55) E hr hlk dX7_least_55 (by first | exact ⟨zfr_lo (zfr_ct f19 f52 (ks := [12, 7, 8]) (by simp) (by simp)) (by decide), zI_fr hI (zfr_ct f19 f52 (ks := [12, 7, 8]) (by simp) (by simp)) (by decide), by rw [hsp]; exact (if_pos h40).symm⟩ | exact ⟨zfr_lo f19 (by decide), zI_fr hI f19 (by decide), by rw [hsp]⟩)
  · have hsp : sp_least S x = -9223372036854775808 := by unfold sp_least; rw [if_neg (by rw [h4]; simp)]
    refine zz_ldc2 (pc := 7) (v := (-9223372036854775808)) E clX7_least_116 dX7_least_7 ?_
    exact zz_lret (pc := 10) E hr hlk dX7_least_10 ⟨zI_lo_rf _, hI, by rw [hsp]⟩
