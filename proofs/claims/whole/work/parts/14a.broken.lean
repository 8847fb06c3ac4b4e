theorem inX8_breaks_X8 : ∀ w ∈ u_ws RX8 TX8 14, w ∈ wsX8_breaks := by decide +kernel
theorem lkX8_breaks_31 : Cond.fieldLink RX8 31 RX8 "one" "[I" ∈ wsX8_breaks := by decide +kernel
theorem lkX8_breaks_136 : Cond.fieldLink RX8 136 RX8 "oneMany" "I" ∈ wsX8_breaks := by decide +kernel
theorem lkX8_breaks_34 : Cond.fieldLink RX8 34 RX8 "other" "[I" ∈ wsX8_breaks := by decide +kernel
theorem lkX8_breaks_139 : Cond.fieldLink RX8 139 RX8 "otherMany" "I" ∈ wsX8_breaks := by decide +kernel
set_option maxHeartbeats 4000000 in
set_option maxRecDepth 100000 in
theorem kkX8_breaks (l : Launch) (G : zz_C) (hJ : zz_J G) (M : zz_M) (S : Nat → Option Nat) (s0 a cc0 : Nat) (hV : zV S) (hS : ztl M S) (hs0 : s0 < 6) (ha : a < 3) (hc : S (18 + s0) = some cc0) : Met l yX8_breaks wsX8_breaks ({ frames := 4, cells := 0, slots := 0, locals := 97 } : Room) (zz_P G M [.ref (G.2.2 100), .int (nI s0), .int (nI a)]) (zz_Qi G (fun r M1 => zmf [108, 109, 110] M M1 ∧ r = zz_b (zbk S s0 a))) 0 0 (zz_A G) := by
  refine zz_start hJ (by decide) rfl (Nat.le_of_ble_eq_true rfl) ?_
  intro p e s m below meth c E hr hlk
  have hts := E.2.2.2.2.1
  show zz_Z p l e (headSpec wsX8_breaks ({ frames := 4, cells := 0, slots := 0, locals := 97 } : Room)).room s m ([.ref (G.2.2 100), .int (nI s0), .int (nI a)] : List Value).toArray below meth c 0 0 (MQ below (zz_Qi G (fun r M1 => zmf [108, 109, 110] M M1 ∧ r = zz_b (zbk S s0 a))) ([.ref (G.2.2 100), .int (nI s0), .int (nI a)] : List Value).toArray s 0 0 (zz_A G)) 9 G (zz_A G) M 0 [(0, .ref (G.2.2 100)), (1, .int (nI s0)), (2, .int (nI a))] []
  obtain ⟨hcz, hc0⟩ := hV.2 s0 hs0 cc0 hc
  have hc6 := zok_mono hcz (show s0 ≤ 6 by omega) (Nat.le_refl 3)
  have hc20 := zok_mono hc6 (Nat.le_refl 6) (show 3 ≤ 20 by decide)
  have hc1 := zok_lt hcz (by decide)
  obtain ⟨hl1c, hl2c, hl3c, -⟩ := zV_claim hV hs0 hc
  rw [zr_len] at hl2c hl3c
  obtain ⟨y, t, hyt⟩ : ∃ y t, zr cc0 = y :: t := by
    cases hh : zr cc0 with
    | nil => have h9 := zr_len cc0; rw [hh] at h9; exact absurd hl3c (by rw [← h9]; simp)
    | cons y t => exact ⟨y, t, rfl⟩
  have hy0 : (zr cc0).getD 0 0 = y := by rw [hyt]; rfl
  have hy6 : y < 6 := by have := hl1c y (by rw [hyt]; exact List.mem_cons_self); omega
  have htl : t.length + 1 = (zd cc0).length := by rw [← zr_len, hyt]; rfl
  have ht6 : ∀ x ∈ t, x < 6 := fun x hx => by have := hl1c x (by rw [hyt]; exact List.mem_cons_of_mem _ hx); omega
  have hbk : zbk S s0 a = match S (3 * s0 + a), S (3 * y + a) with
    | some r, some q => !decide (zred S (zr r) = zred S (zr q ++ t))
    | none, none => false
    | _, _ => true := by unfold zbk; rw [hc]; show zbkc S s0 cc0 a = _; unfold zbkc; rw [hyt]; rfl
  have hcl : M 101 (18 + s0) = nI cc0 := by rw [hS _ (by omega), hc]; rfl
  have hr1 : M 101 (3 * s0 + a) = zo (S (3 * s0 + a)) := hS _ (by omega)
  have hr2 : M 101 (3 * y + a) = zo (S (3 * y + a)) := hS _ (by omega)
  have hz1 : ∀ q, S (3 * s0 + a) = some q → zok q 6 3 = true := fun q hq => hV.1 _ (by omega) q hq
  have hz2 : ∀ q, S (3 * y + a) = some q → zok q 6 3 = true := fun q hq => hV.1 _ (by omega) q hq
  have hl1 : ∀ q, S (3 * s0 + a) = some q → q < 1000 := fun q hq => zV_lt hV (by omega) hq
  have hl2 : ∀ q, S (3 * y + a) = some q → q < 1000 := fun q hq => zV_lt hV (by omega) hq
  refine zz_aload_n (pc := 0) E dX8_breaks_0 rfl ?_
  refine zz_iload_n (pc := 1) E dX8_breaks_1 rfl ?_
  refine zz_ciV (pc := 2) E 100 (kkX8_claimOf l G hJ _ _ (by omega)) (cwV 1 hts gX8_breaks_X8_claimOf rfl rfl rfl (by decide +kernel) ⟨Nat.le_of_ble_eq_true rfl, Nat.le_of_ble_eq_true rfl⟩) (by decide) rfl rfl rfl rfl (Nat.le_of_ble_eq_true rfl) dX8_breaks_2 (fun r2 M2 q2 => ?_)
  obtain ⟨rfl, rfl⟩ := q2
  refine zz_eqi (y := nI cc0) hcl ?_
  refine zz_istore_n (pc := 5) (lv' := [(0, _), (1, _), (2, _), (3, _)]) E dX8_breaks_5 (by decide) rfl ?_
  refine zz_iload_n (pc := 6) E dX8_breaks_6 rfl ?_
  refine zn_i2l (pc := 7) E dX8_breaks_7 (by omega) ?_
  refine zz_bipush (pc := 8) (v := nI 6) E dX8_breaks_8 (by decide) ?_
  refine zz_ciS (pc := 10) E (kkX8_digits l G hJ _ _ _ (by decide)) (va_cwS 2 hts gX8_breaks_X8_digits rfl rfl rfl (by decide +kernel) ⟨Nat.le_of_ble_eq_true rfl, Nat.le_of_ble_eq_true rfl⟩) rfl rfl (Nat.le_of_ble_eq_true rfl) dX8_breaks_10 (fun r10 M10 q10 => ?_)
  obtain ⟨rfl, rfl⟩ := q10
  refine zz_eqi (y := nI (zd cc0).length) (zdg_ok hc6 (by omega)) ?_
  refine zz_istore (pc := 13) (lv' := [(0, _), (1, _), (2, _), (3, _), (4, _)]) E dX8_breaks_13 (by decide) rfl ?_
  refine zz_aload_n (pc := 15) E dX8_breaks_15 rfl ?_
  refine zz_iload_n (pc := 16) E dX8_breaks_16 rfl ?_
  refine zz_iload_n (pc := 17) E dX8_breaks_17 rfl ?_
  refine zz_ciV (pc := 18) E 100 (kkX8_ruleOf l G hJ _ _ _ (by omega) (by omega)) (cwV 2 hts gX8_breaks_X8_ruleOf rfl rfl rfl (by decide +kernel) ⟨Nat.le_of_ble_eq_true rfl, Nat.le_of_ble_eq_true rfl⟩) (by decide) rfl rfl rfl rfl (Nat.le_of_ble_eq_true rfl) dX8_breaks_18 (fun r18 M18 q18 => ?_)
  obtain ⟨rfl, rfl⟩ := q18
  refine zz_eqi (y := zo (S (3 * s0 + a))) hr1 ?_
  refine zz_istore (pc := 21) (lv' := [(0, _), (1, _), (2, _), (3, _), (4, _), (5, _)]) E dX8_breaks_21 (by decide) rfl ?_
  refine zz_aload_n (pc := 23) E dX8_breaks_23 rfl ?_
  refine zz_iload_n (pc := 24) E dX8_breaks_24 rfl ?_
  refine zn_i2l (pc := 25) E dX8_breaks_25 (by omega) ?_
  refine zz_iload (pc := 26) E dX8_breaks_26 rfl ?_
  refine zz_iconst (pc := 28) (v := nI 0) E dX8_breaks_28 (by decide) ?_
  refine zz_ciS (pc := 29) E (kkX8_digitAt l G hJ _ _ _ _ 6 (by omega) rfl (by omega) hc20) (va_cwS 3 hts gX8_breaks_X8_digitAt rfl rfl rfl (by decide +kernel) ⟨Nat.le_of_ble_eq_true rfl, Nat.le_of_ble_eq_true rfl⟩) rfl rfl (Nat.le_of_ble_eq_true rfl) dX8_breaks_29 (fun r29 M29 q29 => ?_)
  obtain ⟨rfl, rfl⟩ := q29
  refine zz_eqi (y := nI y) (by rw [hy0]) ?_
  refine zz_iload_n (pc := 32) E dX8_breaks_32 rfl ?_
  refine zz_ciV (pc := 33) E 100 (kkX8_ruleOf l G hJ _ _ _ (by omega) (by omega)) (cwV 2 hts gX8_breaks_X8_ruleOf rfl rfl rfl (by decide +kernel) ⟨Nat.le_of_ble_eq_true rfl, Nat.le_of_ble_eq_true rfl⟩) (by decide) rfl rfl rfl rfl (Nat.le_of_ble_eq_true rfl) dX8_breaks_33 (fun r33 M33 q33 => ?_)
  obtain ⟨rfl, rfl⟩ := q33
  refine zz_eqi (y := zo (S (3 * y + a))) hr2 ?_
  refine zz_istore (pc := 36) (lv' := [(0, _), (1, _), (2, _), (3, _), (4, _), (5, _), (6, _)]) E dX8_breaks_36 (by decide) rfl ?_
  rcases ho1 : S (3 * s0 + a) with _ | q1
  · rcases ho2 : S (3 * y + a) with _ | q2
    · rw [ho1, ho2] at hbk
      refine zz_iload (pc := 38) E dX8_breaks_38 rfl ?_
      refine zz_bipush (pc := 40) (v := -9) E dX8_breaks_40 (by decide) ?_
      refine zz_icmp_eq (pc := 42) (tgt := 52) E dX8_breaks_42 (by decide) (fun h42 => ?_) (fun h42 => ?_)
      · refine zz_iload (pc := 52) E dX8_breaks_52 rfl ?_
        refine zz_iload (pc := 54) E dX8_breaks_54 rfl ?_
        refine zz_icmp_eq (pc := 56) (tgt := 63) E dX8_breaks_56 (by decide) (fun h56 => ?_) (fun h56 => ?_)
        · refine zz_iconst (pc := 63) (v := nI 0) E dX8_breaks_63 (by decide) ?_
          exact zz_zret (pc := 64) E hr hlk dX8_breaks_64 (by decide) ⟨zmf_rf _ _, by rw [hbk]; rfl⟩
        · exact absurd rfl h56
      · exact absurd rfl h42
    · rw [ho1, ho2] at hbk
      have hq2 := hl2 q2 ho2
      refine zz_iload (pc := 38) E dX8_breaks_38 rfl ?_
      refine zz_bipush (pc := 40) (v := -9) E dX8_breaks_40 (by decide) ?_
      refine zz_icmp_eq (pc := 42) (tgt := 52) E dX8_breaks_42 (by decide) (fun h42 => ?_) (fun h42 => ?_)
      · refine zz_iload (pc := 52) E dX8_breaks_52 rfl ?_
        refine zz_iload (pc := 54) E dX8_breaks_54 rfl ?_
        refine zz_icmp_eq (pc := 56) (tgt := 63) E dX8_breaks_56 (by decide) (fun h56 => ?_) (fun h56 => ?_)
        · exact absurd ((zo_m9 (o := some q2) (fun x hx => by cases hx; omega)).mp h56.symm) (by simp)
        · refine zz_iconst (pc := 59) (v := nI 1) E dX8_breaks_59 (by decide) ?_
          refine zz_goto (pc := 60) (tgt := 64) E dX8_breaks_60 (by decide) ?_
          exact zz_zret (pc := 64) E hr hlk dX8_breaks_64 (by decide) ⟨zmf_rf _ _, by rw [hbk]; rfl⟩
      · exact absurd rfl h42
  · rcases ho2 : S (3 * y + a) with _ | q2
    · rw [ho1, ho2] at hbk
      have hq1 := hl1 q1 ho1
      refine zz_iload (pc := 38) E dX8_breaks_38 rfl ?_
      refine zz_bipush (pc := 40) (v := -9) E dX8_breaks_40 (by decide) ?_
      refine zz_icmp_eq (pc := 42) (tgt := 52) E dX8_breaks_42 (by decide) (fun h42 => ?_) (fun h42 => ?_)
      · exact absurd ((zo_m9 (o := some q1) (fun x hx => by cases hx; omega)).mp h42) (by simp)
      · refine zz_iload (pc := 45) E dX8_breaks_45 rfl ?_
        refine zz_bipush (pc := 47) (v := -9) E dX8_breaks_47 (by decide) ?_
        refine zz_icmp_ne (pc := 49) (tgt := 65) E dX8_breaks_49 (by decide) (fun h49 => ?_) (fun h49 => ?_)
        · exact absurd rfl h49
        · refine zz_iload (pc := 52) E dX8_breaks_52 rfl ?_
          refine zz_iload (pc := 54) E dX8_breaks_54 rfl ?_
          refine zz_icmp_eq (pc := 56) (tgt := 63) E dX8_breaks_56 (by decide) (fun h56 => ?_) (fun h56 => ?_)
          · exact absurd ((zo_m9 (o := some q1) (fun x hx => by cases hx; omega)).mp h56) (by simp)
          · refine zz_iconst (pc := 59) (v := nI 1) E dX8_breaks_59 (by decide) ?_
            refine zz_goto (pc := 60) (tgt := 64) E dX8_breaks_60 (by decide) ?_
            exact zz_zret (pc := 64) E hr hlk dX8_breaks_64 (by decide) ⟨zmf_rf _ _, by rw [hbk]; rfl⟩
    · rw [ho1, ho2] at hbk
      have hq1 := hl1 q1 ho1
      have hq2 := hl2 q2 ho2
      have hk1 := hz1 q1 ho1
      have hk2 := hz2 q2 ho2
      have h6b : ∀ x ∈ zr q2 ++ t, x < 6 := fun x hx => by
        rcases List.mem_append.mp hx with h | h
        · exact zr_lt hk2 x h
        · exact ht6 x h
      have hn1 := zred_len hV (zr_lt hk1)
      have hn2 := zred_len hV h6b
      rw [List.length_append, zr_len] at hn2
      rw [zr_len] at hn1
      have hm1 := zok_len hk1
      have hm2 := zok_len hk2
      refine zz_iload (pc := 38) E dX8_breaks_38 rfl ?_
      refine zz_bipush (pc := 40) (v := -9) E dX8_breaks_40 (by decide) ?_
      refine zz_icmp_eq (pc := 42) (tgt := 52) E dX8_breaks_42 (by decide) (fun h42 => ?_) (fun h42 => ?_)
      · exact absurd ((zo_m9 (o := some q1) (fun x hx => by cases hx; omega)).mp h42) (by simp)
      · refine zz_iload (pc := 45) E dX8_breaks_45 rfl ?_
        refine zz_bipush (pc := 47) (v := -9) E dX8_breaks_47 (by decide) ?_
        refine zz_icmp_ne (pc := 49) (tgt := 65) E dX8_breaks_49 (by decide) (fun h49 => ?_) (fun h49 => ?_)
        · refine zz_aload_n (pc := 65) E dX8_breaks_65 rfl ?_
          refine zz_aload_n (pc := 66) E dX8_breaks_66 rfl ?_
          refine zz_aload_n (pc := 67) E dX8_breaks_67 rfl ?_
          refine zz_gf (pc := 68) E 100 (by decide) rfl rfl inX8_breaks_X8 11 (by decide) lkX8_breaks_31 (fun _ h => h) rfl dX8_breaks_68 ?_
          refine zz_iload (pc := 71) E dX8_breaks_71 rfl ?_
          refine zz_eqi (y := nI q1) rfl ?_
          refine zz_aload_n (pc := 73) E dX8_breaks_73 rfl ?_
          refine zz_gf (pc := 74) E 100 (by decide) rfl rfl inX8_breaks_X8 11 (by decide) lkX8_breaks_31 (fun _ h => h) rfl dX8_breaks_74 ?_
          refine zz_iconst (pc := 77) (v := nI 0) E dX8_breaks_77 (by decide) ?_
          refine zz_ciS (pc := 78) E (kkX8_lays l G hJ _  108 q1 3 [] (by decide) (zF108 G) hk1 (by decide) (fun i x hi => by cases hi) (by rw [List.length_nil]; omega)) (va_cwS 3 hts gX8_breaks_X8_lays rfl rfl rfl (by decide +kernel) ⟨Nat.le_of_ble_eq_true rfl, Nat.le_of_ble_eq_true rfl⟩) rfl rfl (Nat.le_of_ble_eq_true rfl) dX8_breaks_78 (fun r78 M78 q78 => ?_)
          obtain ⟨f78, rfl, w78⟩ := q78
          refine zz_eqi (y := nI (zr q1).length) rfl ?_
          rw [List.nil_append] at w78
          have hS2 : ztl M78 S := fun i hi => by rw [f78 101 (by decide)]; exact hS i hi
          refine zz_ciV (pc := 81) E 100 (kkX8_reduces l G hJ _  S 108 (zr q1) hV hS2 (Or.inl rfl) (zF108 G) w78 (zr_lt hk1) (by omega)) (cwV 2 hts gX8_breaks_X8_reduces rfl rfl rfl (by decide +kernel) ⟨Nat.le_of_ble_eq_true rfl, Nat.le_of_ble_eq_true rfl⟩) (by decide) rfl rfl rfl rfl (Nat.le_of_ble_eq_true rfl) dX8_breaks_81 (fun r81 M81 q81 => ?_)
          obtain ⟨f81, rfl, w81⟩ := q81
          refine zz_pfj (pc := 84) E 100 2 (by decide) rfl rfl inX8_breaks_X8 tyX8 tyX8_ok nmX8 9 (by decide) lkX8_breaks_136 (fun _ h => h) rfl rfl (Nat.le_of_ble_eq_true rfl) rfl dX8_breaks_84 ?_
          generalize hM3 : zz_up _ 100 _ = M3
          have hf3 : zmf [108, 109, 110] M M3 := by rw [← hM3]; exact zmf_fld (zmf_ct (zmf_fr f78 (by decide)) (zmf_fr f81 (by decide)) (by simp) (by simp)) (by decide)
          have h32 : M3 100 2 = nI (zred S (zr q1)).length := by rw [← hM3, zz_up_same, upd_same]
          have h38 : zA (M3 108) (zred S (zr q1)) := by rw [← hM3, zz_up_ne _ _ (by decide)]; exact w81
          have hS3 := ztl_mf hS hf3 (by decide)
          clear hM3
          refine zz_iload (pc := 87) E dX8_breaks_87 rfl ?_
          refine zz_eqi (y := nI q2) rfl ?_
          refine zz_aload_n (pc := 89) E dX8_breaks_89 rfl ?_
          refine zz_gf (pc := 90) E 100 (by decide) rfl rfl inX8_breaks_X8 12 (by decide) lkX8_breaks_34 (fun _ h => h) rfl dX8_breaks_90 ?_
          refine zz_iconst (pc := 93) (v := nI 0) E dX8_breaks_93 (by decide) ?_
          refine zz_ciS (pc := 94) E (kkX8_lays l G hJ _  109 q2 3 [] (by decide) (zF109 G) hk2 (by decide) (fun i x hi => by cases hi) (by rw [List.length_nil]; omega)) (va_cwS 3 hts gX8_breaks_X8_lays rfl rfl rfl (by decide +kernel) ⟨Nat.le_of_ble_eq_true rfl, Nat.le_of_ble_eq_true rfl⟩) rfl rfl (Nat.le_of_ble_eq_true rfl) dX8_breaks_94 (fun r94 M94 q94 => ?_)
          obtain ⟨f94, rfl, w94⟩ := q94
          refine zz_eqi (y := nI (zr q2).length) rfl ?_
          refine zz_istore (pc := 97) (lv' := [(0, _), (1, _), (2, _), (3, _), (4, _), (5, _), (6, _), (7, _)]) E dX8_breaks_97 (by decide) rfl ?_
          refine zz_iconst (pc := 99) (v := nI 1) E dX8_breaks_99 (by decide) ?_
          refine zz_istore (pc := 100) (lv' := [(0, _), (1, _), (2, _), (3, _), (4, _), (5, _), (6, _), (7, _), (8, _)]) E dX8_breaks_100 (by decide) rfl ?_
          rw [List.nil_append] at w94
          have hf4 : zmf [108, 109, 110] M M94 := zmf_ct hf3 (zmf_fr f94 (by decide)) (fun _ h => h) (by simp)
          have h42a : M94 100 2 = nI (zred S (zr q1)).length := by rw [f94 100 (by decide)]; exact h32
          have h48a : zA (M94 108) (zred S (zr q1)) := by rw [f94 108 (by decide)]; exact h38
          have key : ∀ (j i : Nat) (M5 : zz_M), i + 1 + j = (zd cc0).length → zmf [108, 109, 110] M M5 → M5 100 2 = nI (zred S (zr q1)).length → zA (M5 108) (zred S (zr q1)) → zA (M5 109) (zr q2 ++ t.take i) → zz_Z p l e (headSpec wsX8_breaks ({ frames := 4, cells := 0, slots := 0, locals := 97 } : Room)).room s m ([.ref (G.2.2 100), .int (nI s0), .int (nI a)] : List Value).toArray below meth c 0 0 (MQ below (zz_Qi G (fun r M1 => zmf [108, 109, 110] M M1 ∧ r = zz_b (zbk S s0 a))) ([.ref (G.2.2 100), .int (nI s0), .int (nI a)] : List Value).toArray s 0 0 (zz_A G)) 9 G (zz_A G) M5 102 [(0, .ref (G.2.2 100)), (3, .int (nI cc0)), (4, .int (nI (zd cc0).length)), (7, .int (nI (zr q2 ++ t.take i).length)), (8, .int (nI (i + 1)))] [] := by
            intro j
            induction j with
            | zero =>
              intro i M5 hi hf5 h5a h5b h5c
              rw [List.take_of_length_le (by omega)] at h5c ⊢
              refine zz_iload (pc := 102) E dX8_breaks_102 rfl ?_
              refine zz_iload (pc := 104) E dX8_breaks_104 rfl ?_
              refine zn_icmp_ge (pc := 106) (tgt := 134) E dX8_breaks_106 (by decide) (by omega) (by omega) (fun h106 => ?_) (fun h106 => ?_)
              · refine zz_aload_n (pc := 134) E dX8_breaks_134 rfl ?_
                refine zz_aload_n (pc := 135) E dX8_breaks_135 rfl ?_
                refine zz_aload_n (pc := 136) E dX8_breaks_136 rfl ?_
                refine zz_gf (pc := 137) E 100 (by decide) rfl rfl inX8_breaks_X8 12 (by decide) lkX8_breaks_34 (fun _ h => h) rfl dX8_breaks_137 ?_
                refine zz_iload (pc := 140) E dX8_breaks_140 rfl ?_
                refine zz_ciV (pc := 142) E 100 (kkX8_reduces l G hJ _  S 109 (zr q2 ++ t) hV (ztl_mf hS hf5 (by decide)) (Or.inr rfl) (zF109 G) h5c h6b (by omega)) (cwV 2 hts gX8_breaks_X8_reduces rfl rfl rfl (by decide +kernel) ⟨Nat.le_of_ble_eq_true rfl, Nat.le_of_ble_eq_true rfl⟩) (by decide) rfl rfl rfl rfl (Nat.le_of_ble_eq_true rfl) dX8_breaks_142 (fun r142 M142 q142 => ?_)
                obtain ⟨f142, rfl, w142⟩ := q142
                refine zz_pfj (pc := 145) E 100 3 (by decide) rfl rfl inX8_breaks_X8 tyX8 tyX8_ok nmX8 10 (by decide) lkX8_breaks_139 (fun _ h => h) rfl rfl (Nat.le_of_ble_eq_true rfl) rfl dX8_breaks_145 ?_
                generalize hM6 : zz_up _ 100 _ = M6
                have hf6 : zmf [108, 109, 110] M M6 := by rw [← hM6]; exact zmf_fld (zmf_ct hf5 (zmf_fr f142 (by decide)) (fun _ h => h) (by simp)) (by decide)
                have hal : zal M6 (zred S (zr q1)) (zred S (zr q2 ++ t)) := by
                  rw [← hM6]
                  exact ⟨by rw [zz_up_same, upd_ne _ _ (by decide), f142 100 (by decide)]; exact h5a, by rw [zz_up_ne _ _ (by decide), f142 108 (by decide)]; exact h5b, by rw [zz_up_same, upd_same], by rw [zz_up_ne _ _ (by decide)]; exact w142, by omega, by omega, zred_6 hV (zr_lt hk1), zred_6 hV h6b⟩
                clear hM6
                refine zz_aload_n (pc := 148) E dX8_breaks_148 rfl ?_
                refine zz_ciV (pc := 149) E 100 (kkX8_areAlike l G hJ _  _ _ hal) (cwV 0 hts gX8_breaks_X8_areAlike rfl rfl rfl (by decide +kernel) ⟨Nat.le_of_ble_eq_true rfl, Nat.le_of_ble_eq_true rfl⟩) (by decide) rfl rfl rfl rfl (Nat.le_of_ble_eq_true rfl) dX8_breaks_149 (fun r149 M149 q149 => ?_)
                obtain ⟨rfl, rfl⟩ := q149
                refine zb_if_ne (pc := 152) (tgt := 159) E dX8_breaks_152 (by decide) (fun h152 => ?_) (fun h152 => ?_)
                · refine zz_iconst (pc := 159) (v := nI 0) E dX8_breaks_159 (by decide) ?_
                  exact zz_zret (pc := 160) E hr hlk dX8_breaks_160 (by decide) ⟨hf6, by rw [hbk]; show _ = zz_b (!decide _); rw [h152]; rfl⟩
                · refine zz_iconst (pc := 155) (v := nI 1) E dX8_breaks_155 (by decide) ?_
                  refine zz_goto (pc := 156) (tgt := 160) E dX8_breaks_156 (by decide) ?_
                  exact zz_zret (pc := 160) E hr hlk dX8_breaks_160 (by decide) ⟨hf6, by rw [hbk]; show _ = zz_b (!decide _); rw [h152]; rfl⟩
              · exact absurd h106 (by omega)
            | succ j ih =>
              intro i M5 hi hf5 h5a h5b h5c
              obtain ⟨u, hu⟩ : ∃ u, t[i]? = some u := ⟨_, List.getElem?_eq_getElem (by omega)⟩
              have hgd : (zr cc0).getD (i + 1) 0 = u := by rw [hyt, List.getD_eq_getElem?_getD, List.getElem?_cons_succ, hu]; rfl
              have htk : zr q2 ++ t.take (i + 1) = (zr q2 ++ t.take i) ++ [u] := by rw [List.take_succ, hu, List.append_assoc]; rfl
              have hlen : (zr q2 ++ t.take i).length ≤ 10 := by rw [List.length_append, zr_len, List.length_take]; omega
              refine zz_iload (pc := 102) E dX8_breaks_102 rfl ?_
              refine zz_iload (pc := 104) E dX8_breaks_104 rfl ?_
              refine zn_icmp_ge (pc := 106) (tgt := 134) E dX8_breaks_106 (by decide) (by omega) (by omega) (fun h106 => ?_) (fun h106 => ?_)
              · exact absurd h106 (by omega)
              · refine zz_aload_n (pc := 109) E dX8_breaks_109 rfl ?_
                refine zz_gf (pc := 110) E 100 (by decide) rfl rfl inX8_breaks_X8 12 (by decide) lkX8_breaks_34 (fun _ h => h) rfl dX8_breaks_110 ?_
                refine zz_iload (pc := 113) E dX8_breaks_113 rfl ?_
                refine zz_iload_n (pc := 115) E dX8_breaks_115 rfl ?_
                refine zn_i2l (pc := 116) E dX8_breaks_116 (by omega) ?_
                refine zz_iload (pc := 117) E dX8_breaks_117 rfl ?_
                refine zz_iload (pc := 119) E dX8_breaks_119 rfl ?_
                refine zz_ciS (pc := 121) E (kkX8_digitAt l G hJ _ _ _ _ 6 (by omega) rfl (by omega) hc20) (va_cwS 3 hts gX8_breaks_X8_digitAt rfl rfl rfl (by decide +kernel) ⟨Nat.le_of_ble_eq_true rfl, Nat.le_of_ble_eq_true rfl⟩) rfl rfl (Nat.le_of_ble_eq_true rfl) dX8_breaks_121 (fun r121 M121 q121 => ?_)
                obtain ⟨rfl, rfl⟩ := q121
                refine zz_eqi (y := nI u) (by rw [hgd]) ?_
                refine zz_iast (pc := 124) E 109 ((zr q2 ++ t.take i).length) (n := 2400) (by decide) (fun _ => rfl) rfl (by omega) (by decide) dX8_breaks_124 ?_
                refine zn_inc (pc := 125) (lv' := [(0, _), (3, _), (4, _), (7, _), (8, _)]) E dX8_breaks_125 rfl (by decide) rfl ?_
                refine zn_inc (pc := 128) (lv' := [(0, _), (3, _), (4, _), (7, _), (8, _)]) E dX8_breaks_128 rfl (by decide) rfl ?_
                refine zz_goto (pc := 131) (tgt := 102) E dX8_breaks_131 (by decide) ?_
                exact zz_to (ih (i + 1) _ (by omega) (zmf_up hf5 (by simp) (by decide)) (by rw [zz_up_ne _ _ (by decide)]; exact h5a) (by rw [zz_up_ne _ _ (by decide)]; exact h5b) (by rw [zz_up_same, htk]; exact zA_app h5c (fun q hq => upd_ne _ _ (by omega)) (fun q b hb => by obtain ⟨h9, h8⟩ : q = 0 ∧ b = u := (by cases q with | zero => { exact ⟨rfl, (Option.some.inj hb).symm⟩ } | succ q => { cases hb }); rw [h9, h8]; exact upd_same _ _ _))) ⟨rfl, rfl, rfl, by rw [htk, show ((zr q2 ++ t.take i) ++ [u]).length = (zr q2 ++ t.take i).length + 1 from List.length_append]; rfl, rfl, trivial⟩
          exact zz_to (key (t.length) 0 M94 (by omega) hf4 h42a h48a (by rw [List.take_zero, List.append_nil]; exact w94)) ⟨rfl, rfl, rfl, by rw [List.take_zero, List.append_nil]; rfl, rfl, trivial⟩
        · exact absurd ((zo_m9 (o := some q2) (fun x hx => by cases hx; omega)).mp h49) (by simp)

set_option maxHeartbeats 4000000 in
set_option maxRecDepth 100000 in
theorem kkX8_brokenBy (l : Launch) (G : zz_C) (hJ : zz_J G) (M : zz_M) (S : Nat → Option Nat) (s0 : Nat) (hV : zV S) (hS : ztl M S) (hs0 : s0 < 6) : Met l yX8_brokenBy wsX8_brokenBy ({ frames := 5, cells := 0, slots := 0, locals := 125 } : Room) (zz_P G M [.ref (G.2.2 100), .int (nI s0)]) (zz_Qi G (fun r M1 => zmf [108, 109, 110] M M1 ∧ r = zo (zbb S s0))) 0 0 (zz_A G) := by
  refine zz_start hJ (by decide) rfl (Nat.le_of_ble_eq_true rfl) ?_
  intro p e s m below meth c E hr hlk
  have hts := E.2.2.2.2.1
  show zz_Z p l e (headSpec wsX8_brokenBy ({ frames := 5, cells := 0, slots := 0, locals := 125 } : Room)).room s m ([.ref (G.2.2 100), .int (nI s0)] : List Value).toArray below meth c 0 0 (MQ below (zz_Qi G (fun r M1 => zmf [108, 109, 110] M M1 ∧ r = zo (zbb S s0))) ([.ref (G.2.2 100), .int (nI s0)] : List Value).toArray s 0 0 (zz_A G)) 3 G (zz_A G) M 0 [(0, .ref (G.2.2 100)), (1, .int (nI s0))] []
  have hcl : M 101 (18 + s0) = zo (S (18 + s0)) := hS _ (by omega)
  refine zz_iconst (pc := 0) (v := nI 0) E dX8_brokenBy_0 (by decide) ?_
  refine zz_istore_n (pc := 1) (lv' := [(0, _), (1, _), (2, _)]) E dX8_brokenBy_1 (by decide) rfl ?_
  cases hc : S (18 + s0) with
  | none =>
    have hnn : zbb S s0 = none := zfs_none (fun q _ _ => by unfold zbk; rw [hc])
    rw [hc] at hcl
    refine zz_iload_n (pc := 2) E dX8_brokenBy_2 rfl ?_
    refine zz_iconst (pc := 3) (v := nI 3) E dX8_brokenBy_3 (by decide) ?_
    refine zn_icmp_ge (pc := 4) (tgt := 34) E dX8_brokenBy_4 (by decide) (by omega) (by omega) (fun h4 => ?_) (fun h4 => ?_)
    · exact absurd h4 (by decide)
    · refine zz_aload_n (pc := 7) E dX8_brokenBy_7 rfl ?_
      refine zz_iload_n (pc := 8) E dX8_brokenBy_8 rfl ?_
      refine zz_ciV (pc := 9) E 100 (kkX8_claimOf l G hJ _ _ (by omega)) (cwV 1 hts gX8_brokenBy_X8_claimOf rfl rfl rfl (by decide +kernel) ⟨Nat.le_of_ble_eq_true rfl, Nat.le_of_ble_eq_true rfl⟩) (by decide) rfl rfl rfl rfl (Nat.le_of_ble_eq_true rfl) dX8_brokenBy_9 (fun r9 M9 q9 => ?_)
      obtain ⟨rfl, rfl⟩ := q9
      refine zz_eqi (y := -9) hcl ?_
      refine zz_bipush (pc := 12) (v := -9) E dX8_brokenBy_12 (by decide) ?_
      refine zz_icmp_eq (pc := 14) (tgt := 34) E dX8_brokenBy_14 (by decide) (fun h14 => ?_) (fun h14 => ?_)
      · refine zz_bipush (pc := 34) (v := -9) E dX8_brokenBy_34 (by decide) ?_
        exact zz_iret (pc := 36) E hr hlk dX8_brokenBy_36 ⟨zmf_rf _ _, by rw [hnn]; rfl⟩
      · exact absurd rfl h14
  | some q =>
    have hq1 := zV_lt2 hV hs0 hc
    have key : ∀ (j i : Nat) (M2 : zz_M), i + j = 3 → zmf [108, 109, 110] M M2 → zbb S s0 = zfs (zbk S s0) i j → zz_Z p l e (headSpec wsX8_brokenBy ({ frames := 5, cells := 0, slots := 0, locals := 125 } : Room)).room s m ([.ref (G.2.2 100), .int (nI s0)] : List Value).toArray below meth c 0 0 (MQ below (zz_Qi G (fun r M1 => zmf [108, 109, 110] M M1 ∧ r = zo (zbb S s0))) ([.ref (G.2.2 100), .int (nI s0)] : List Value).toArray s 0 0 (zz_A G)) 3 G (zz_A G) M2 2 [(0, .ref (G.2.2 100)), (1, .int (nI s0)), (2, .int (nI i))] [] := by
      intro j
      induction j with
      | zero =>
        intro i M2 hi hf he
        refine zz_iload_n (pc := 2) E dX8_brokenBy_2 rfl ?_
        refine zz_iconst (pc := 3) (v := nI 3) E dX8_brokenBy_3 (by decide) ?_
        refine zn_icmp_ge (pc := 4) (tgt := 34) E dX8_brokenBy_4 (by decide) (by omega) (by omega) (fun h4 => ?_) (fun h4 => ?_)
        · refine zz_bipush (pc := 34) (v := -9) E dX8_brokenBy_34 (by decide) ?_
          exact zz_iret (pc := 36) E hr hlk dX8_brokenBy_36 ⟨hf, by rw [he]; rfl⟩
        · exact absurd h4 (by omega)
      | succ j ih =>
        intro i M2 hi hf he
        have hS2 := ztl_mf hS hf (by decide)
        have hcl2 : M2 101 (18 + s0) = nI q := by rw [hS2 _ (by omega), hc]; rfl
        rw [zfs] at he
        refine zz_iload_n (pc := 2) E dX8_brokenBy_2 rfl ?_
        refine zz_iconst (pc := 3) (v := nI 3) E dX8_brokenBy_3 (by decide) ?_
        refine zn_icmp_ge (pc := 4) (tgt := 34) E dX8_brokenBy_4 (by decide) (by omega) (by omega) (fun h4 => ?_) (fun h4 => ?_)
        · exact absurd h4 (by omega)
        · refine zz_aload_n (pc := 7) E dX8_brokenBy_7 rfl ?_
          refine zz_iload_n (pc := 8) E dX8_brokenBy_8 rfl ?_
          refine zz_ciV (pc := 9) E 100 (kkX8_claimOf l G hJ _ _ (by omega)) (cwV 1 hts gX8_brokenBy_X8_claimOf rfl rfl rfl (by decide +kernel) ⟨Nat.le_of_ble_eq_true rfl, Nat.le_of_ble_eq_true rfl⟩) (by decide) rfl rfl rfl rfl (Nat.le_of_ble_eq_true rfl) dX8_brokenBy_9 (fun r9 M9 q9 => ?_)
          obtain ⟨rfl, rfl⟩ := q9
          refine zz_eqi (y := nI q) hcl2 ?_
          refine zz_bipush (pc := 12) (v := -9) E dX8_brokenBy_12 (by decide) ?_
          refine zz_icmp_eq (pc := 14) (tgt := 34) E dX8_brokenBy_14 (by decide) (fun h14 => ?_) (fun h14 => ?_)
          · exact absurd ((zo_m9 (o := some q) (fun x hx => by cases hx; omega)).mp h14) (by simp)
          · refine zz_aload_n (pc := 17) E dX8_brokenBy_17 rfl ?_
            refine zz_iload_n (pc := 18) E dX8_brokenBy_18 rfl ?_
            refine zz_iload_n (pc := 19) E dX8_brokenBy_19 rfl ?_
            refine zz_ciV (pc := 20) E 100 (kkX8_breaks l G hJ _  S s0 i q hV hS2 hs0 (by omega) hc) (cwV 2 hts gX8_brokenBy_X8_breaks rfl rfl rfl (by decide +kernel) ⟨Nat.le_of_ble_eq_true rfl, Nat.le_of_ble_eq_true rfl⟩) (by decide) rfl rfl rfl rfl (Nat.le_of_ble_eq_true rfl) dX8_brokenBy_20 (fun r20 M20 q20 => ?_)
            obtain ⟨f20, rfl⟩ := q20
            refine zb_if_eq (pc := 23) (tgt := 28) E dX8_brokenBy_23 (by decide) (fun h23 => ?_) (fun h23 => ?_)
            · rw [h23] at he
              refine zn_inc (pc := 28) (lv' := [(0, _), (1, _), (2, _)]) E dX8_brokenBy_28 rfl (by decide) rfl ?_
              refine zz_goto (pc := 31) (tgt := 2) E dX8_brokenBy_31 (by decide) ?_
              exact zz_to (ih (i + 1) M20 (by omega) (zmf_ct hf f20 (fun _ h => h) (fun _ h => h)) he) ⟨rfl, rfl, rfl, trivial⟩
            · rw [if_pos h23] at he
              refine zz_iload_n (pc := 26) E dX8_brokenBy_26 rfl ?_
              exact zz_iret (pc := 27) E hr hlk dX8_brokenBy_27 ⟨zmf_ct hf f20 (fun _ h => h) (fun _ h => h), by rw [he]; rfl⟩
    exact zz_to (key 3 0 M (by omega) (zmf_rf _ _) rfl) ⟨rfl, rfl, rfl, trivial⟩

set_option maxHeartbeats 4000000 in
set_option maxRecDepth 100000 in
theorem kkX8_brokenNow (l : Launch) (G : zz_C) (hJ : zz_J G) (M : zz_M) (S : Nat → Option Nat) (hV : zV S) (hS : ztl M S) : Met l yX8_brokenNow wsX8_brokenNow ({ frames := 6, cells := 0, slots := 0, locals := 147 } : Room) (zz_P G M [.ref (G.2.2 100)]) (zz_Qi G (fun r M1 => zmf [108, 109, 110] M M1 ∧ r = nI (zbs S))) 0 0 (zz_A G) := by
  refine zz_start hJ (by decide) rfl (Nat.le_of_ble_eq_true rfl) ?_
  intro p e s m below meth c E hr hlk
  have hts := E.2.2.2.2.1
  show zz_Z p l e (headSpec wsX8_brokenNow ({ frames := 6, cells := 0, slots := 0, locals := 147 } : Room)).room s m ([.ref (G.2.2 100)] : List Value).toArray below meth c 0 0 (MQ below (zz_Qi G (fun r M1 => zmf [108, 109, 110] M M1 ∧ r = nI (zbs S))) ([.ref (G.2.2 100)] : List Value).toArray s 0 0 (zz_A G)) 3 G (zz_A G) M 0 [(0, .ref (G.2.2 100))] []
  refine zz_iconst (pc := 0) (v := nI 0) E dX8_brokenNow_0 (by decide) ?_
  refine zz_istore_n (pc := 1) (lv' := [(0, _), (1, _)]) E dX8_brokenNow_1 (by decide) rfl ?_
  refine zz_iconst (pc := 2) (v := nI 0) E dX8_brokenNow_2 (by decide) ?_
  refine zz_istore_n (pc := 3) (lv' := [(0, _), (1, _), (2, _)]) E dX8_brokenNow_3 (by decide) rfl ?_
  have key : ∀ (j i : Nat) (M2 : zz_M), i + j = 6 → zmf [108, 109, 110] M M2 → zz_Z p l e (headSpec wsX8_brokenNow ({ frames := 6, cells := 0, slots := 0, locals := 147 } : Room)).room s m ([.ref (G.2.2 100)] : List Value).toArray below meth c 0 0 (MQ below (zz_Qi G (fun r M1 => zmf [108, 109, 110] M M1 ∧ r = nI (zbs S))) ([.ref (G.2.2 100)] : List Value).toArray s 0 0 (zz_A G)) 3 G (zz_A G) M2 4 [(0, .ref (G.2.2 100)), (1, .int (nI (zbsf S i))), (2, .int (nI i))] [] := by
    intro j
    induction j with
    | zero =>
      intro i M2 hi hf
      refine zz_iload_n (pc := 4) E dX8_brokenNow_4 rfl ?_
      refine zz_bipush (pc := 5) (v := nI 6) E dX8_brokenNow_5 (by decide) ?_
      refine zn_icmp_ge (pc := 7) (tgt := 36) E dX8_brokenNow_7 (by decide) (by omega) (by omega) (fun h7 => ?_) (fun h7 => ?_)
      · refine zz_iload_n (pc := 36) E dX8_brokenNow_36 rfl ?_
        exact zz_iret (pc := 37) E hr hlk dX8_brokenNow_37 ⟨hf, by rw [show i = 6 by omega]; rfl⟩
      · exact absurd h7 (by omega)
    | succ j ih =>
      intro i M2 hi hf
      have hS2 := ztl_mf hS hf (by decide)
      have hlt : ∀ q, zbb S i = some q → q < 2 ^ 31 := fun q hq => by have := zfs_lt hq; omega
      have hcur := zbsf_lt S i (by omega)
      refine zz_iload_n (pc := 4) E dX8_brokenNow_4 rfl ?_
      refine zz_bipush (pc := 5) (v := nI 6) E dX8_brokenNow_5 (by decide) ?_
      refine zn_icmp_ge (pc := 7) (tgt := 36) E dX8_brokenNow_7 (by decide) (by omega) (by omega) (fun h7 => ?_) (fun h7 => ?_)
      · exact absurd h7 (by omega)
      · refine zz_iload_n (pc := 10) E dX8_brokenNow_10 rfl ?_
        refine zz_aload_n (pc := 11) E dX8_brokenNow_11 rfl ?_
        refine zz_iload_n (pc := 12) E dX8_brokenNow_12 rfl ?_
        refine zz_ciV (pc := 13) E 100 (kkX8_brokenBy l G hJ _  S i hV hS2 (by omega)) (cwV 1 hts gX8_brokenNow_X8_brokenBy rfl rfl rfl (by decide +kernel) ⟨Nat.le_of_ble_eq_true rfl, Nat.le_of_ble_eq_true rfl⟩) (by decide) rfl rfl rfl rfl (Nat.le_of_ble_eq_true rfl) dX8_brokenNow_13 (fun r13 M13 q13 => ?_)
        obtain ⟨f13, rfl⟩ := q13
        refine zz_bipush (pc := 16) (v := -9) E dX8_brokenNow_16 (by decide) ?_
        refine zz_icmp_eq (pc := 18) (tgt := 27) E dX8_brokenNow_18 (by decide) (fun h18 => ?_) (fun h18 => ?_)
        · rw [zo_m9 hlt] at h18
          have hh : zbsf S (i + 1) = zbsf S i := by rw [zbsf, h18]
          refine zz_iconst (pc := 27) (v := nI 0) E dX8_brokenNow_27 (by decide) ?_
          refine zz_ior (pc := 28) E dX8_brokenNow_28 ?_
          refine zz_eqi (y := nI (zbsf S (i + 1))) (by rw [hh, zor_ok _ hcur _ (by decide), Nat.or_zero]) ?_
          refine zz_istore_n (pc := 29) (lv' := [(0, _), (1, _), (2, _)]) E dX8_brokenNow_29 (by decide) rfl ?_
          refine zn_inc (pc := 30) (lv' := [(0, _), (1, _), (2, _)]) E dX8_brokenNow_30 rfl (by decide) rfl ?_
          refine zz_goto (pc := 33) (tgt := 4) E dX8_brokenNow_33 (by decide) ?_
          exact zz_to (ih (i + 1) M13 (by omega) (zmf_ct hf f13 (fun _ h => h) (fun _ h => h))) ⟨rfl, rfl, rfl, trivial⟩
        · obtain ⟨q, hq⟩ : ∃ q, zbb S i = some q := by
            cases hv2 : zbb S i with
            | none => exact absurd (by rw [hv2]; rfl) h18
            | some q => exact ⟨q, rfl⟩
          have hh : zbsf S (i + 1) = zbsf S i ||| 2 ^ i := by rw [zbsf, hq]
          refine zz_iconst (pc := 21) (v := nI 1) E dX8_brokenNow_21 (by decide) ?_
          refine zz_iload_n (pc := 22) E dX8_brokenNow_22 rfl ?_
          refine zz_ishl (pc := 23) E dX8_brokenNow_23 ?_
          refine zz_eqi (y := nI (2 ^ i)) (zshl_ok i (by omega)) ?_
          refine zz_goto (pc := 24) (tgt := 28) E dX8_brokenNow_24 (by decide) ?_
          refine zz_ior (pc := 28) E dX8_brokenNow_28 ?_
          refine zz_eqi (y := nI (zbsf S (i + 1))) (by rw [hh]; exact zor_ok _ hcur _ (zpw_lt i (by omega))) ?_
          refine zz_istore_n (pc := 29) (lv' := [(0, _), (1, _), (2, _)]) E dX8_brokenNow_29 (by decide) rfl ?_
          refine zn_inc (pc := 30) (lv' := [(0, _), (1, _), (2, _)]) E dX8_brokenNow_30 rfl (by decide) rfl ?_
          refine zz_goto (pc := 33) (tgt := 4) E dX8_brokenNow_33 (by decide) ?_
          exact zz_to (ih (i + 1) M13 (by omega) (zmf_ct hf f13 (fun _ h => h) (fun _ h => h))) ⟨rfl, rfl, rfl, trivial⟩
  exact zz_to (key 6 0 M (by omega) (zmf_rf _ _)) ⟨rfl, rfl, rfl, trivial⟩

set_option maxHeartbeats 4000000 in
set_option maxRecDepth 100000 in
theorem kkX8_broken (l : Launch) (G : zz_C) (hJ : zz_J G) (M : zz_M) (S : Nat → Option Nat) (hs : List (Nat → Option Nat)) (w : Int32) (hI : zJ M S hs) : Met l yX8_broken wsX8_broken ({ frames := 6, cells := 0, slots := 0, locals := 147 } : Room) (zz_P G M [.ref (G.2.2 100), .int w]) (zz_Qi G (fun r M1 => zhi M M1 ∧ zJ M1 S hs ∧ r = sp_broken S w)) 0 0 (zz_A G) := by
  refine zz_start hJ (by decide) rfl (Nat.le_of_ble_eq_true rfl) ?_
  intro p e s m below meth c E hr hlk
  have hts := E.2.2.2.2.1
  show zz_Z p l e (headSpec wsX8_broken ({ frames := 6, cells := 0, slots := 0, locals := 147 } : Room)).room s m ([.ref (G.2.2 100), .int w] : List Value).toArray below meth c 0 0 (MQ below (zz_Qi G (fun r M1 => zhi M M1 ∧ zJ M1 S hs ∧ r = sp_broken S w)) ([.ref (G.2.2 100), .int w] : List Value).toArray s 0 0 (zz_A G)) 4 G (zz_A G) M 0 [(0, .ref (G.2.2 100)), (1, .int w)] []
  refine zz_iload_n (pc := 0) E dX8_broken_0 rfl ?_
  refine zz_iconst (pc := 1) (v := nI 0) E dX8_broken_1 (by decide) ?_
  refine zz_iconst (pc := 2) (v := nI 1) E dX8_broken_2 (by decide) ?_
  refine zz_ciS (pc := 3) E (kkX8_within l G hJ _ _ _ _ ) (va_cwS 3 hts gX8_broken_X8_within rfl rfl rfl (by decide +kernel) ⟨Nat.le_of_ble_eq_true rfl, Nat.le_of_ble_eq_true rfl⟩) rfl rfl (Nat.le_of_ble_eq_true rfl) dX8_broken_3 (fun r3 M3 q3 => ?_)
  obtain ⟨rfl, rfl⟩ := q3
  refine zb_if_ne (pc := 6) (tgt := 12) E dX8_broken_6 (by decide) (fun h6 => ?_) (fun h6 => ?_)
  · rw [zp_w_0 (by decide)] at h6
    obtain ⟨u, hu, hwu⟩ := zp_in_of h6 (by decide)
    have hsp : sp_broken S w = match zfs (fun s => (zbb S s).isSome) 0 6 with | none => -9 | some s => if u = 0 then nI s else zo (zbb S s) := by
      unfold sp_broken
      rw [if_pos h6, hwu, nI_nat (by omega)]
      rfl
    refine zz_iconst (pc := 12) (v := nI 0) E dX8_broken_12 (by decide) ?_
    refine zz_istore_n (pc := 13) (lv' := [(0, _), (1, _), (2, _)]) E dX8_broken_13 (by decide) rfl ?_
    have key : ∀ (j i : Nat) (M2 : zz_M), i + j = 6 → zmf [108, 109, 110] M M2 → zfs (fun s => (zbb S s).isSome) 0 6 = zfs (fun s => (zbb S s).isSome) i j → zz_Z p l e (headSpec wsX8_broken ({ frames := 6, cells := 0, slots := 0, locals := 147 } : Room)).room s m ([.ref (G.2.2 100), .int w] : List Value).toArray below meth c 0 0 (MQ below (zz_Qi G (fun r M1 => zhi M M1 ∧ zJ M1 S hs ∧ r = sp_broken S w)) ([.ref (G.2.2 100), .int w] : List Value).toArray s 0 0 (zz_A G)) 4 G (zz_A G) M2 14 [(0, .ref (G.2.2 100)), (1, .int w), (2, .int (nI i))] [] := by
      intro j
      induction j with
      | zero =>
        intro i M2 hi hf he
        refine zz_iload_n (pc := 14) E dX8_broken_14 rfl ?_
        refine zz_bipush (pc := 15) (v := nI 6) E dX8_broken_15 (by decide) ?_
        refine zn_icmp_ge (pc := 17) (tgt := 48) E dX8_broken_17 (by decide) (by omega) (by omega) (fun h17 => ?_) (fun h17 => ?_)
        · refine zz_bipush (pc := 48) (v := -9) E dX8_broken_48 (by decide) ?_
          exact zz_iret (pc := 50) E hr hlk dX8_broken_50 ⟨zmf_hi hf (by decide), zJ_mf hI hf (by decide) (by decide), by rw [hsp, he]; rfl⟩
        · exact absurd h17 (by omega)
      | succ j ih =>
        intro i M2 hi hf he
        have hS2 := ztl_mf hI.2.2.1 hf (by decide)
        have hlt : ∀ q, zbb S i = some q → q < 2 ^ 31 := fun q hq => by have := zfs_lt hq; omega
        rw [zfs_step (n := j)] at he
        refine zz_iload_n (pc := 14) E dX8_broken_14 rfl ?_
        refine zz_bipush (pc := 15) (v := nI 6) E dX8_broken_15 (by decide) ?_
        refine zn_icmp_ge (pc := 17) (tgt := 48) E dX8_broken_17 (by decide) (by omega) (by omega) (fun h17 => ?_) (fun h17 => ?_)
        · exact absurd h17 (by omega)
        · refine zz_aload_n (pc := 20) E dX8_broken_20 rfl ?_
          refine zz_iload_n (pc := 21) E dX8_broken_21 rfl ?_
          refine zz_ciV (pc := 22) E 100 (kkX8_brokenBy l G hJ _  S i hI.1 hS2 (by omega)) (cwV 1 hts gX8_broken_X8_brokenBy rfl rfl rfl (by decide +kernel) ⟨Nat.le_of_ble_eq_true rfl, Nat.le_of_ble_eq_true rfl⟩) (by decide) rfl rfl rfl rfl (Nat.le_of_ble_eq_true rfl) dX8_broken_22 (fun r22 M22 q22 => ?_)
          obtain ⟨f22, rfl⟩ := q22
          refine zz_istore_n (pc := 25) (lv' := [(0, _), (1, _), (2, _), (3, _)]) E dX8_broken_25 (by decide) rfl ?_
          refine zz_iload_n (pc := 26) E dX8_broken_26 rfl ?_
          refine zz_bipush (pc := 27) (v := -9) E dX8_broken_27 (by decide) ?_
          refine zz_icmp_eq (pc := 29) (tgt := 42) E dX8_broken_29 (by decide) (fun h29 => ?_) (fun h29 => ?_)
          · rw [zo_m9 hlt] at h29
            rw [h29] at he
            refine zn_inc (pc := 42) (lv' := [(0, _), (1, _), (2, _), (3, _)]) E dX8_broken_42 rfl (by decide) rfl ?_
            refine zz_goto (pc := 45) (tgt := 14) E dX8_broken_45 (by decide) ?_
            exact zz_to (ih (i + 1) M22 (by omega) (zmf_ct hf f22 (fun _ h => h) (fun _ h => h)) he) ⟨rfl, rfl, rfl, trivial⟩
          · obtain ⟨q, hq⟩ : ∃ q, zbb S i = some q := by
              cases hv2 : zbb S i with
              | none => exact absurd (by rw [hv2]; rfl) h29
              | some q => exact ⟨q, rfl⟩
            rw [if_pos (by rw [hq]; rfl)] at he
            have hf := zmf_ct hf f22 (ks := [108, 109, 110]) (fun _ h => h) (fun _ h => h)
            refine zz_iload_n (pc := 32) E dX8_broken_32 rfl ?_
            refine zz_eqi (y := nI u) hwu ?_
            refine zn_if_ne (pc := 33) (tgt := 40) E dX8_broken_33 (by decide) (by omega) (fun h33 => ?_) (fun h33 => ?_)
            · refine zz_iload_n (pc := 40) E dX8_broken_40 rfl ?_
              exact zz_iret (pc := 41) E hr hlk dX8_broken_41 ⟨zmf_hi hf (by decide), zJ_mf hI hf (by decide) (by decide), by rw [hsp, he]; first | exact (if_pos h33).symm | exact (if_neg h33).symm⟩
            · refine zz_iload_n (pc := 36) E dX8_broken_36 rfl ?_
              refine zz_goto (pc := 37) (tgt := 41) E dX8_broken_37 (by decide) ?_
              exact zz_iret (pc := 41) E hr hlk dX8_broken_41 ⟨zmf_hi hf (by decide), zJ_mf hI hf (by decide) (by decide), by rw [hsp, he]; first | exact (if_pos h33).symm | exact (if_neg h33).symm⟩
    exact zz_to (key 6 0 M (by omega) (zmf_rf _ _) rfl) ⟨rfl, rfl, rfl, trivial⟩
  · rw [zp_w_0 (by decide)] at h6
    have hsp : sp_broken S w = -2 := by unfold sp_broken; rw [if_neg (by rw [h6]; simp)]
    refine zz_bipush (pc := 9) (v := -2) E dX8_broken_9 (by decide) ?_
    exact zz_iret (pc := 11) E hr hlk dX8_broken_11 ⟨zhi_rf _, hI, by rw [hsp]⟩
