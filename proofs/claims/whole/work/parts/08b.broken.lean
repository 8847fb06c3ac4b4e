/-! claims that are broken -/
theorem zfu_ok : ∀ c, c < 1000 → zok c 6 3 = true → c ≠ 0 → zr c = (c / zfu c - 1) :: zr (c % zfu c) ∧ zok (c % zfu c) 6 3 = true ∧ 1 ≤ c / zfu c ∧ c / zfu c ≤ 6 := by decide +kernel
theorem zfu_pos (c : Nat) : 0 < zfu c ∧ zfu c ≤ 100 := by
  unfold zfu
  by_cases h : 100 ≤ c
  · rw [if_pos h]; omega
  · rw [if_neg h]
    by_cases h2 : 10 ≤ c
    · rw [if_pos h2]; omega
    · rw [if_neg h2]; omega
/-- whether a letter breaks the claim c of s -/
def zbkc (S : Nat → Option Nat) (s c a : Nat) : Bool := match zr c with
  | [] => false
  | x :: t => match S (3 * s + a), S (3 * x + a) with
    | some r, some q => !decide (zred S (zr r) = zred S (zr q ++ t))
    | none, none => false
    | _, _ => true
def zbk (S : Nat → Option Nat) (s a : Nat) : Bool := match S (18 + s) with
  | none => false
  | some c => zbkc S s c a
def zfs (P : Nat → Bool) : Nat → Nat → Option Nat
  | _, 0 => none
  | i, n + 1 => if P i = true then some i else zfs P (i + 1) n
theorem zfs_none {P : Nat → Bool} : ∀ {n i : Nat}, (∀ q, i ≤ q → q < i + n → P q = false) → zfs P i n = none
  | 0, _, _ => rfl
  | n + 1, i, h => by
    rw [zfs, h i (Nat.le_refl _) (by omega)]
    exact zfs_none (fun q h1 h2 => h q (by omega) (by omega))
theorem zfs_lt {P : Nat → Bool} : ∀ {n i a : Nat}, zfs P i n = some a → a < i + n
  | n + 1, i, a, h => by
    rw [zfs] at h
    by_cases hp : P i = true
    · rw [if_pos hp] at h; cases h; omega
    · rw [if_neg hp] at h
      have := zfs_lt h
      omega
def zbb (S : Nat → Option Nat) (s : Nat) : Option Nat := zfs (zbk S s) 0 3
def zbsf (S : Nat → Option Nat) : Nat → Nat
  | 0 => 0
  | n + 1 => match zbb S n with
    | none => zbsf S n
    | some _ => zbsf S n ||| 2 ^ n
theorem zbsf_lt (S : Nat → Option Nat) : ∀ n, n ≤ 6 → zbsf S n < 64
  | 0, _ => (show 0 < 64 by decide)
  | n + 1, h => by
    rw [zbsf]
    have ih := zbsf_lt S n (by omega)
    cases zbb S n with
    | none => exact ih
    | some _ => exact zor_lt ih (zpw_lt n (by omega))
def zbs (S : Nat → Option Nat) : Nat := zbsf S 6
theorem zbs_lt (S : Nat → Option Nat) : zbs S < 64 := zbsf_lt S 6 (Nat.le_refl _)
def zrmv (S : Nat → Option Nat) (w : Nat) : Nat → Option Nat := fun i => if 18 ≤ i ∧ i < 24 ∧ zbit w (i - 18) = true then none else S i
theorem zrmv_V {S : Nat → Option Nat} (hV : zV S) (w : Nat) : zV (zrmv S w) := by
  refine ⟨fun i hi a h => ?_, fun s hs a h => ?_⟩
  · unfold zrmv at h
    rw [if_neg (by omega)] at h
    exact hV.1 i hi a h
  · unfold zrmv at h
    by_cases hc : 18 ≤ 18 + s ∧ 18 + s < 24 ∧ zbit w (18 + s - 18) = true
    · rw [if_pos hc] at h; cases h
    · rw [if_neg hc] at h; exact hV.2 s hs a h

theorem inX7_isBrokenBy_X7 : ∀ w ∈ u_ws RX7 TX7 8, w ∈ wsX7_isBrokenBy := by decide +kernel
theorem lkX7_isBrokenBy_12 : Cond.fieldLink RX7 12 RX7 "table" "LFirstSigns$Table;" ∈ wsX7_isBrokenBy := by decide +kernel
theorem lkX7_isBrokenBy_58 : Cond.fieldLink RX7 58 RX7 "one" "LFirstSigns$Row;" ∈ wsX7_isBrokenBy := by decide +kernel
theorem lkX7_isBrokenBy_49 : Cond.fieldLink RX7 49 RX7 "forms" "LFirstSigns$Forms;" ∈ wsX7_isBrokenBy := by decide +kernel
theorem lkX7_isBrokenBy_62 : Cond.fieldLink RX7 62 RX7 "two" "LFirstSigns$Row;" ∈ wsX7_isBrokenBy := by decide +kernel
set_option maxHeartbeats 4000000 in
set_option maxRecDepth 100000 in
theorem kkX7_isBrokenBy (l : Launch) (G : zz_C) (hJ : zz_J G) (M : zz_M) (S : Nat → Option Nat) (s0 cc0 a : Nat) (hV : zV S) (hS : ztab M 1 S) (hw : zfrm M (zfm S) 6) (hs0 : s0 < 6) (ha : a < 3) (hc : S (18 + s0) = some cc0) : Met l yX7_isBrokenBy wsX7_isBrokenBy ({ frames := 3, cells := 0, slots := 0, locals := 105 } : Room) (zz_P G M [.ref (G.2.2 0), .int (nI s0), .int (nI cc0), .int (nI a)]) (zz_Qi G (fun r M1 => zfr [36, 37, 38, 39] M M1 ∧ r = zz_b (zbk S s0 a))) 0 0 (zz_A G) := by
  refine zz_start hJ (by decide) rfl (Nat.le_of_ble_eq_true rfl) ?_
  intro p e s m below meth c E hr hlk
  have hts := E.2.2.2.2.1
  show zz_Z p l e (headSpec wsX7_isBrokenBy ({ frames := 3, cells := 0, slots := 0, locals := 105 } : Room)).room s m ([.ref (G.2.2 0), .int (nI s0), .int (nI cc0), .int (nI a)] : List Value).toArray below meth c 0 0 (MQ below (zz_Qi G (fun r M1 => zfr [36, 37, 38, 39] M M1 ∧ r = zz_b (zbk S s0 a))) ([.ref (G.2.2 0), .int (nI s0), .int (nI cc0), .int (nI a)] : List Value).toArray s 0 0 (zz_A G)) 7 G (zz_A G) M 0 [(0, .ref (G.2.2 0)), (1, .int (nI s0)), (2, .int (nI cc0)), (3, .int (nI a))] []
  have hbk : zbk S s0 a = zbkc S s0 cc0 a := by unfold zbk; rw [hc]
  obtain ⟨hcz, hc0⟩ := hV.2 s0 hs0 cc0 hc
  have hc1 := zok_lt hcz (by decide)
  obtain ⟨hzr, hzt, hx1, hx2⟩ := zfu_ok cc0 (by omega) (zok_mono hcz (show s0 ≤ 6 by omega) (Nat.le_refl 3)) hc0
  obtain ⟨hu0, hu1⟩ := zfu_pos cc0
  have hbk2 : zbkc S s0 cc0 a = match S (3 * s0 + a), S (3 * (cc0 / zfu cc0 - 1) + a) with
    | some r, some q => !decide (zred S (zr r) = zred S (zr q ++ zr (cc0 % zfu cc0)))
    | none, none => false
    | _, _ => true := by unfold zbkc; rw [hzr]
  rw [hbk2] at hbk
  have hr1 : zrl M 1 (nI s0) (nI a) = zo (S (3 * s0 + a)) := by rw [zrl_nI hs0 ha]; exact hS.1 _ (by omega)
  have hr2 : zrl M 1 (nI (cc0 / zfu cc0 - 1)) (nI a) = zo (S (3 * (cc0 / zfu cc0 - 1) + a)) := by rw [zrl_nI (by omega) ha]; exact hS.1 _ (by omega)
  have hl1 : ∀ q, S (3 * s0 + a) = some q → q < 1000 := fun q hq => zV_lt hV (by omega) hq
  have hl2 : ∀ q, S (3 * (cc0 / zfu cc0 - 1) + a) = some q → q < 1000 := fun q hq => zV_lt hV (by omega) hq
  have hz1 : ∀ q, S (3 * s0 + a) = some q → zok q 6 3 = true := fun q hq => hV.1 _ (by omega) q hq
  have hz2 : ∀ q, S (3 * (cc0 / zfu cc0 - 1) + a) = some q → zok q 6 3 = true := fun q hq => hV.1 _ (by omega) q hq
  refine zz_iload_n (pc := 0) E dX7_isBrokenBy_0 rfl ?_
  refine zz_ciS (pc := 1) E (kkX7_firstUnit l G hJ _ _ (by omega)) (va_cwS 1 hts gX7_isBrokenBy_X7_firstUnit rfl rfl rfl (by decide +kernel) ⟨Nat.le_of_ble_eq_true rfl, Nat.le_of_ble_eq_true rfl⟩) rfl rfl (Nat.le_of_ble_eq_true rfl) dX7_isBrokenBy_1 (fun r1 M1 q1 => ?_)
  obtain ⟨rfl, rfl⟩ := q1
  refine zz_istore (pc := 4) (lv' := [(0, _), (1, _), (2, _), (3, _), (4, _)]) E dX7_isBrokenBy_4 (by decide) rfl ?_
  refine zz_aload_n (pc := 6) E dX7_isBrokenBy_6 rfl ?_
  refine zz_gf (pc := 7) E 0 (by decide) rfl rfl inX7_isBrokenBy_X7 0 (by decide) lkX7_isBrokenBy_12 (fun _ h => h) rfl dX7_isBrokenBy_7 ?_
  refine zz_iload_n (pc := 10) E dX7_isBrokenBy_10 rfl ?_
  refine zz_iload_n (pc := 11) E dX7_isBrokenBy_11 rfl ?_
  refine zz_ciV (pc := 12) E 1 (kkX6_ruleOf l G hJ _ _ zz_T1 _ _) (cwV 2 hts gX7_isBrokenBy_X6_ruleOf rfl rfl rfl (by decide +kernel) ⟨Nat.le_of_ble_eq_true rfl, Nat.le_of_ble_eq_true rfl⟩) (by decide) rfl rfl rfl rfl (Nat.le_of_ble_eq_true rfl) dX7_isBrokenBy_12 (fun r12 M12 q12 => ?_)
  obtain ⟨rfl, rfl⟩ := q12
  refine zz_eqi (y := zo (S (3 * s0 + a))) hr1 ?_
  refine zz_istore (pc := 15) (lv' := [(0, _), (1, _), (2, _), (3, _), (4, _), (5, _)]) E dX7_isBrokenBy_15 (by decide) rfl ?_
  refine zz_aload_n (pc := 17) E dX7_isBrokenBy_17 rfl ?_
  refine zz_gf (pc := 18) E 0 (by decide) rfl rfl inX7_isBrokenBy_X7 0 (by decide) lkX7_isBrokenBy_12 (fun _ h => h) rfl dX7_isBrokenBy_18 ?_
  refine zz_iload_n (pc := 21) E dX7_isBrokenBy_21 rfl ?_
  refine zz_iload (pc := 22) E dX7_isBrokenBy_22 rfl ?_
  refine zn_idiv (pc := 24) E dX7_isBrokenBy_24 (by omega) (by omega) (by omega) ?_
  refine zz_iconst (pc := 25) (v := nI 1) E dX7_isBrokenBy_25 (by decide) ?_
  refine zn_isub (pc := 26) E dX7_isBrokenBy_26 (by omega) ?_
  refine zz_iload_n (pc := 27) E dX7_isBrokenBy_27 rfl ?_
  refine zz_ciV (pc := 28) E 1 (kkX6_ruleOf l G hJ _ _ zz_T1 _ _) (cwV 2 hts gX7_isBrokenBy_X6_ruleOf rfl rfl rfl (by decide +kernel) ⟨Nat.le_of_ble_eq_true rfl, Nat.le_of_ble_eq_true rfl⟩) (by decide) rfl rfl rfl rfl (Nat.le_of_ble_eq_true rfl) dX7_isBrokenBy_28 (fun r28 M28 q28 => ?_)
  obtain ⟨rfl, rfl⟩ := q28
  refine zz_eqi (y := zo (S (3 * (cc0 / zfu cc0 - 1) + a))) hr2 ?_
  refine zz_istore (pc := 31) (lv' := [(0, _), (1, _), (2, _), (3, _), (4, _), (5, _), (6, _)]) E dX7_isBrokenBy_31 (by decide) rfl ?_
  rcases ho1 : S (3 * s0 + a) with _ | q1
  · rcases ho2 : S (3 * (cc0 / zfu cc0 - 1) + a) with _ | q2
    · rw [ho1, ho2] at hbk
      refine zz_iload (pc := 33) E dX7_isBrokenBy_33 rfl ?_
      refine zz_bipush (pc := 35) (v := -9) E dX7_isBrokenBy_35 (by decide) ?_
      refine zz_icmp_eq (pc := 37) (tgt := 47) E dX7_isBrokenBy_37 (by decide) (fun h37 => ?_) (fun h37 => ?_)
      · refine zz_iload (pc := 47) E dX7_isBrokenBy_47 rfl ?_
        refine zz_iload (pc := 49) E dX7_isBrokenBy_49 rfl ?_
        refine zz_icmp_eq (pc := 51) (tgt := 58) E dX7_isBrokenBy_51 (by decide) (fun h51 => ?_) (fun h51 => ?_)
        · refine zz_iconst (pc := 58) (v := nI 0) E dX7_isBrokenBy_58 (by decide) ?_
          exact zz_zret (pc := 59) E hr hlk dX7_isBrokenBy_59 (by decide) ⟨zfr_rf _ _, by rw [hbk]; rfl⟩
        · exact absurd rfl h51
      · exact absurd rfl h37
    · rw [ho1, ho2] at hbk
      have hq2 := hl2 q2 ho2
      refine zz_iload (pc := 33) E dX7_isBrokenBy_33 rfl ?_
      refine zz_bipush (pc := 35) (v := -9) E dX7_isBrokenBy_35 (by decide) ?_
      refine zz_icmp_eq (pc := 37) (tgt := 47) E dX7_isBrokenBy_37 (by decide) (fun h37 => ?_) (fun h37 => ?_)
      · refine zz_iload (pc := 47) E dX7_isBrokenBy_47 rfl ?_
        refine zz_iload (pc := 49) E dX7_isBrokenBy_49 rfl ?_
        refine zz_icmp_eq (pc := 51) (tgt := 58) E dX7_isBrokenBy_51 (by decide) (fun h51 => ?_) (fun h51 => ?_)
        · exact absurd ((zo_m9 (o := some q2) (fun x hx => by cases hx; omega)).mp h51.symm) (by simp)
        · refine zz_iconst (pc := 54) (v := nI 1) E dX7_isBrokenBy_54 (by decide) ?_
          refine zz_goto (pc := 55) (tgt := 59) E dX7_isBrokenBy_55 (by decide) ?_
          exact zz_zret (pc := 59) E hr hlk dX7_isBrokenBy_59 (by decide) ⟨zfr_rf _ _, by rw [hbk]; rfl⟩
      · exact absurd rfl h37
  · rcases ho2 : S (3 * (cc0 / zfu cc0 - 1) + a) with _ | q2
    · rw [ho1, ho2] at hbk
      have hq1 := hl1 q1 ho1
      refine zz_iload (pc := 33) E dX7_isBrokenBy_33 rfl ?_
      refine zz_bipush (pc := 35) (v := -9) E dX7_isBrokenBy_35 (by decide) ?_
      refine zz_icmp_eq (pc := 37) (tgt := 47) E dX7_isBrokenBy_37 (by decide) (fun h37 => ?_) (fun h37 => ?_)
      · exact absurd ((zo_m9 (o := some q1) (fun x hx => by cases hx; omega)).mp h37) (by simp)
      · refine zz_iload (pc := 40) E dX7_isBrokenBy_40 rfl ?_
        refine zz_bipush (pc := 42) (v := -9) E dX7_isBrokenBy_42 (by decide) ?_
        refine zz_icmp_ne (pc := 44) (tgt := 60) E dX7_isBrokenBy_44 (by decide) (fun h44 => ?_) (fun h44 => ?_)
        · exact absurd rfl h44
        · refine zz_iload (pc := 47) E dX7_isBrokenBy_47 rfl ?_
          refine zz_iload (pc := 49) E dX7_isBrokenBy_49 rfl ?_
          refine zz_icmp_eq (pc := 51) (tgt := 58) E dX7_isBrokenBy_51 (by decide) (fun h51 => ?_) (fun h51 => ?_)
          · exact absurd ((zo_m9 (o := some q1) (fun x hx => by cases hx; omega)).mp h51) (by simp)
          · refine zz_iconst (pc := 54) (v := nI 1) E dX7_isBrokenBy_54 (by decide) ?_
            refine zz_goto (pc := 55) (tgt := 59) E dX7_isBrokenBy_55 (by decide) ?_
            exact zz_zret (pc := 59) E hr hlk dX7_isBrokenBy_59 (by decide) ⟨zfr_rf _ _, by rw [hbk]; rfl⟩
    · rw [ho1, ho2] at hbk
      have hq1 := hl1 q1 ho1
      have hq2 := hl2 q2 ho2
      have hk1 := hz1 q1 ho1
      have hk2 := hz2 q2 ho2
      have hn1 := zred_len hV (zr_lt hk1)
      have hn2 := zred_len hV (zr_lt hk2)
      have hn3 := zred_len hV (zr_lt hzt)
      rw [zr_len] at hn1 hn2 hn3
      have hm1 := zok_len hk1
      have hm2 := zok_len hk2
      have hm3 := zok_len hzt
      refine zz_iload (pc := 33) E dX7_isBrokenBy_33 rfl ?_
      refine zz_bipush (pc := 35) (v := -9) E dX7_isBrokenBy_35 (by decide) ?_
      refine zz_icmp_eq (pc := 37) (tgt := 47) E dX7_isBrokenBy_37 (by decide) (fun h37 => ?_) (fun h37 => ?_)
      · exact absurd ((zo_m9 (o := some q1) (fun x hx => by cases hx; omega)).mp h37) (by simp)
      · refine zz_iload (pc := 40) E dX7_isBrokenBy_40 rfl ?_
        refine zz_bipush (pc := 42) (v := -9) E dX7_isBrokenBy_42 (by decide) ?_
        refine zz_icmp_ne (pc := 44) (tgt := 60) E dX7_isBrokenBy_44 (by decide) (fun h44 => ?_) (fun h44 => ?_)
        · refine zz_aload_n (pc := 60) E dX7_isBrokenBy_60 rfl ?_
          refine zz_gf (pc := 61) E 0 (by decide) rfl rfl inX7_isBrokenBy_X7 6 (by decide) lkX7_isBrokenBy_58 (fun _ h => h) rfl dX7_isBrokenBy_61 ?_
          refine zz_cvV (pc := 64) E 36 (kkX5_clear l G hJ _ _ _ zz_R36) (cwV 0 hts gX7_isBrokenBy_X5_clear rfl rfl rfl (by decide +kernel) ⟨Nat.le_of_ble_eq_true rfl, Nat.le_of_ble_eq_true rfl⟩) (by decide) rfl rfl rfl rfl (Nat.le_of_ble_eq_true rfl) dX7_isBrokenBy_64 (fun M64 q64 => ?_)
          obtain ⟨f64, w64⟩ := q64
          refine zz_aload_n (pc := 67) E dX7_isBrokenBy_67 rfl ?_
          refine zz_gf (pc := 68) E 0 (by decide) rfl rfl inX7_isBrokenBy_X7 5 (by decide) lkX7_isBrokenBy_49 (fun _ h => h) rfl dX7_isBrokenBy_68 ?_
          refine zz_aload_n (pc := 71) E dX7_isBrokenBy_71 rfl ?_
          refine zz_gf (pc := 72) E 0 (by decide) rfl rfl inX7_isBrokenBy_X7 6 (by decide) lkX7_isBrokenBy_58 (fun _ h => h) rfl dX7_isBrokenBy_72 ?_
          refine zz_iload (pc := 75) E dX7_isBrokenBy_75 rfl ?_
          refine zz_eqi (y := nI q1) rfl ?_
          refine zz_cvV (pc := 77) E 22 (kkX1_putAhead l G hJ _  36 2187 zz_R36 (zfm S) q1 3 [] hk1 (by decide) w64 (fun x hx => zrow_fr (hw x (zr_lt hk1 x hx)) f64 (by have := zr_lt hk1 x hx; simp; omega) (by have := zr_lt hk1 x hx; simp; omega)) (fun x hx => by have := zr_lt hk1 x hx; omega) (by show (zred S (zr q1)).length + 0 ≤ 2187; omega)) (cwV 2 hts gX7_isBrokenBy_X1_putAhead rfl rfl rfl (by decide +kernel) ⟨Nat.le_of_ble_eq_true rfl, Nat.le_of_ble_eq_true rfl⟩) (by decide) rfl rfl rfl rfl (Nat.le_of_ble_eq_true rfl) dX7_isBrokenBy_77 (fun M77 q77 => ?_)
          obtain ⟨f77, w77⟩ := q77
          have hw1 : zfrm M77 (zfm S) 6 := fun t ht => zrow_fr (zrow_fr (hw t ht) f64 (by simp; omega) (by simp; omega)) f77 (by simp; omega) (by simp; omega)
          refine zz_aload_n (pc := 80) E dX7_isBrokenBy_80 rfl ?_
          refine zz_gf (pc := 81) E 0 (by decide) rfl rfl inX7_isBrokenBy_X7 7 (by decide) lkX7_isBrokenBy_62 (fun _ h => h) rfl dX7_isBrokenBy_81 ?_
          refine zz_cvV (pc := 84) E 38 (kkX5_clear l G hJ _ _ _ zz_R38) (cwV 0 hts gX7_isBrokenBy_X5_clear rfl rfl rfl (by decide +kernel) ⟨Nat.le_of_ble_eq_true rfl, Nat.le_of_ble_eq_true rfl⟩) (by decide) rfl rfl rfl rfl (Nat.le_of_ble_eq_true rfl) dX7_isBrokenBy_84 (fun M84 q84 => ?_)
          obtain ⟨f84, w84⟩ := q84
          refine zz_aload_n (pc := 87) E dX7_isBrokenBy_87 rfl ?_
          refine zz_gf (pc := 88) E 0 (by decide) rfl rfl inX7_isBrokenBy_X7 5 (by decide) lkX7_isBrokenBy_49 (fun _ h => h) rfl dX7_isBrokenBy_88 ?_
          refine zz_aload_n (pc := 91) E dX7_isBrokenBy_91 rfl ?_
          refine zz_gf (pc := 92) E 0 (by decide) rfl rfl inX7_isBrokenBy_X7 7 (by decide) lkX7_isBrokenBy_62 (fun _ h => h) rfl dX7_isBrokenBy_92 ?_
          refine zz_iload_n (pc := 95) E dX7_isBrokenBy_95 rfl ?_
          refine zz_iload (pc := 96) E dX7_isBrokenBy_96 rfl ?_
          refine zn_irem (pc := 98) E dX7_isBrokenBy_98 (by omega) (by omega) (by omega) ?_
          refine zz_cvV (pc := 99) E 22 (kkX1_putAhead l G hJ _  38 2187 zz_R38 (zfm S) (cc0 % zfu cc0) 3 [] hzt (by decide) w84 (fun x hx => zrow_fr (hw1 x (zr_lt hzt x hx)) f84 (by have := zr_lt hzt x hx; simp; omega) (by have := zr_lt hzt x hx; simp; omega)) (fun x hx => by have := zr_lt hzt x hx; omega) (by show (zred S (zr (cc0 % zfu cc0))).length + 0 ≤ 2187; omega)) (cwV 2 hts gX7_isBrokenBy_X1_putAhead rfl rfl rfl (by decide +kernel) ⟨Nat.le_of_ble_eq_true rfl, Nat.le_of_ble_eq_true rfl⟩) (by decide) rfl rfl rfl rfl (Nat.le_of_ble_eq_true rfl) dX7_isBrokenBy_99 (fun M99 q99 => ?_)
          obtain ⟨f99, w99⟩ := q99
          refine zz_aload_n (pc := 102) E dX7_isBrokenBy_102 rfl ?_
          refine zz_gf (pc := 103) E 0 (by decide) rfl rfl inX7_isBrokenBy_X7 5 (by decide) lkX7_isBrokenBy_49 (fun _ h => h) rfl dX7_isBrokenBy_103 ?_
          refine zz_aload_n (pc := 106) E dX7_isBrokenBy_106 rfl ?_
          refine zz_gf (pc := 107) E 0 (by decide) rfl rfl inX7_isBrokenBy_X7 7 (by decide) lkX7_isBrokenBy_62 (fun _ h => h) rfl dX7_isBrokenBy_107 ?_
          refine zz_iload (pc := 110) E dX7_isBrokenBy_110 rfl ?_
          refine zz_eqi (y := nI q2) rfl ?_
          refine zz_cvV (pc := 112) E 22 (kkX1_putAhead l G hJ _  38 2187 zz_R38 (zfm S) q2 3 _ hk2 (by decide) w99 (fun x hx => zrow_fr (zrow_fr (hw1 x (zr_lt hk2 x hx)) f84 (by have := zr_lt hk2 x hx; simp; omega) (by have := zr_lt hk2 x hx; simp; omega)) f99 (by have := zr_lt hk2 x hx; simp; omega) (by have := zr_lt hk2 x hx; simp; omega)) (fun x hx => by have := zr_lt hk2 x hx; omega) (by rw [List.append_nil]; show (zred S (zr q2)).length + (zred S (zr (cc0 % zfu cc0))).length ≤ 2187; omega)) (cwV 2 hts gX7_isBrokenBy_X1_putAhead rfl rfl rfl (by decide +kernel) ⟨Nat.le_of_ble_eq_true rfl, Nat.le_of_ble_eq_true rfl⟩) (by decide) rfl rfl rfl rfl (Nat.le_of_ble_eq_true rfl) dX7_isBrokenBy_112 (fun M112 q112 => ?_)
          obtain ⟨f112, w112⟩ := q112
          have hA : zrow M112 36 2187 (zred S (zr q1)) := by rw [List.append_nil] at w77; exact zrow_fr (zrow_fr (zrow_fr w77 f84 (by decide) (by decide)) f99 (by decide) (by decide)) f112 (by decide) (by decide)
          have hB : zrow M112 38 2187 (zred S (zr q2 ++ zr (cc0 % zfu cc0))) := by
            rw [List.append_nil] at w112
            unfold zred
            rw [List.flatMap_append]
            exact w112
          have hf : zfr [36, 37, 38, 39] M M112 := zfr_ct (zfr_ct (zfr_ct (zfr_ct f64 f77 (ks := [36, 37, 38, 39]) (by simp) (by simp)) f84 (ks := [36, 37, 38, 39]) (fun _ h => h) (by simp)) f99 (ks := [36, 37, 38, 39]) (fun _ h => h) (by simp)) f112 (fun _ h => h) (by simp)
          refine zz_aload_n (pc := 115) E dX7_isBrokenBy_115 rfl ?_
          refine zz_gf (pc := 116) E 0 (by decide) rfl rfl inX7_isBrokenBy_X7 6 (by decide) lkX7_isBrokenBy_58 (fun _ h => h) rfl dX7_isBrokenBy_116 ?_
          refine zz_aload_n (pc := 119) E dX7_isBrokenBy_119 rfl ?_
          refine zz_gf (pc := 120) E 0 (by decide) rfl rfl inX7_isBrokenBy_X7 7 (by decide) lkX7_isBrokenBy_62 (fun _ h => h) rfl dX7_isBrokenBy_120 ?_
          refine zz_ciV (pc := 123) E 36 (kkX5_isSame l G hJ _ _ _ zz_R36 _ _ zz_R38 _ _ hA hB) (cwV 1 hts gX7_isBrokenBy_X5_isSame rfl rfl rfl (by decide +kernel) ⟨Nat.le_of_ble_eq_true rfl, Nat.le_of_ble_eq_true rfl⟩) (by decide) rfl rfl rfl rfl (Nat.le_of_ble_eq_true rfl) dX7_isBrokenBy_123 (fun r123 M123 q123 => ?_)
          obtain ⟨rfl, rfl⟩ := q123
          refine zb_if_ne (pc := 126) (tgt := 133) E dX7_isBrokenBy_126 (by decide) (fun h126 => ?_) (fun h126 => ?_)
          · refine zz_iconst (pc := 133) (v := nI 0) E dX7_isBrokenBy_133 (by decide) ?_
            exact zz_zret (pc := 134) E hr hlk dX7_isBrokenBy_134 (by decide) ⟨hf, by rw [hbk]; show _ = zz_b (!decide _); rw [h126]; rfl⟩
          · refine zz_iconst (pc := 129) (v := nI 1) E dX7_isBrokenBy_129 (by decide) ?_
            refine zz_goto (pc := 130) (tgt := 134) E dX7_isBrokenBy_130 (by decide) ?_
            exact zz_zret (pc := 134) E hr hlk dX7_isBrokenBy_134 (by decide) ⟨hf, by rw [hbk]; show _ = zz_b (!decide _); rw [h126]; rfl⟩
        · exact absurd ((zo_m9 (o := some q2) (fun x hx => by cases hx; omega)).mp h44) (by simp)

theorem inX7_breakingLetter_X7 : ∀ w ∈ u_ws RX7 TX7 8, w ∈ wsX7_breakingLetter := by decide +kernel
theorem lkX7_breakingLetter_12 : Cond.fieldLink RX7 12 RX7 "table" "LFirstSigns$Table;" ∈ wsX7_breakingLetter := by decide +kernel
set_option maxHeartbeats 4000000 in
set_option maxRecDepth 100000 in
theorem kkX7_breakingLetter (l : Launch) (G : zz_C) (hJ : zz_J G) (M : zz_M) (S : Nat → Option Nat) (s0 : Nat) (hV : zV S) (hS : ztab M 1 S) (hw : zfrm M (zfm S) 6) (hs0 : s0 < 6) : Met l yX7_breakingLetter wsX7_breakingLetter ({ frames := 4, cells := 0, slots := 0, locals := 131 } : Room) (zz_P G M [.ref (G.2.2 0), .int (nI s0)]) (zz_Qi G (fun r M1 => zfr [36, 37, 38, 39] M M1 ∧ r = zo (zbb S s0))) 0 0 (zz_A G) := by
  refine zz_start hJ (by decide) rfl (Nat.le_of_ble_eq_true rfl) ?_
  intro p e s m below meth c E hr hlk
  have hts := E.2.2.2.2.1
  show zz_Z p l e (headSpec wsX7_breakingLetter ({ frames := 4, cells := 0, slots := 0, locals := 131 } : Room)).room s m ([.ref (G.2.2 0), .int (nI s0)] : List Value).toArray below meth c 0 0 (MQ below (zz_Qi G (fun r M1 => zfr [36, 37, 38, 39] M M1 ∧ r = zo (zbb S s0))) ([.ref (G.2.2 0), .int (nI s0)] : List Value).toArray s 0 0 (zz_A G)) 4 G (zz_A G) M 0 [(0, .ref (G.2.2 0)), (1, .int (nI s0))] []
  have hcl := hS.2 s0 hs0
  refine zz_aload_n (pc := 0) E dX7_breakingLetter_0 rfl ?_
  refine zz_gf (pc := 1) E 0 (by decide) rfl rfl inX7_breakingLetter_X7 0 (by decide) lkX7_breakingLetter_12 (fun _ h => h) rfl dX7_breakingLetter_1 ?_
  refine zz_iload_n (pc := 4) E dX7_breakingLetter_4 rfl ?_
  refine zz_ciV (pc := 5) E 1 (kkX6_claimOf l G hJ _ _ zz_T1 _ hs0) (cwV 1 hts gX7_breakingLetter_X6_claimOf rfl rfl rfl (by decide +kernel) ⟨Nat.le_of_ble_eq_true rfl, Nat.le_of_ble_eq_true rfl⟩) (by decide) rfl rfl rfl rfl (Nat.le_of_ble_eq_true rfl) dX7_breakingLetter_5 (fun r5 M5 q5 => ?_)
  obtain ⟨rfl, rfl⟩ := q5
  refine zz_istore_n (pc := 8) (lv' := [(0, _), (1, _), (2, _)]) E dX7_breakingLetter_8 (by decide) rfl ?_
  refine zz_iconst (pc := 9) (v := nI 0) E dX7_breakingLetter_9 (by decide) ?_
  refine zz_istore_n (pc := 10) (lv' := [(0, _), (1, _), (2, _), (3, _)]) E dX7_breakingLetter_10 (by decide) rfl ?_
  cases hc : S (18 + s0) with
  | none =>
    have hnn : zbb S s0 = none := zfs_none (fun q _ _ => by unfold zbk; rw [hc])
    have hcl9 : M (1 + 2) s0 = -9 := by rw [hcl, hc]; rfl
    refine zz_iload_n (pc := 11) E dX7_breakingLetter_11 rfl ?_
    refine zz_iconst (pc := 12) (v := nI 3) E dX7_breakingLetter_12 (by decide) ?_
    refine zn_icmp_ge (pc := 13) (tgt := 40) E dX7_breakingLetter_13 (by decide) (by omega) (by omega) (fun h13 => ?_) (fun h13 => ?_)
    · exact absurd h13 (by decide)
    · refine zz_iload_n (pc := 16) E dX7_breakingLetter_16 rfl ?_
      refine zz_bipush (pc := 17) (v := -9) E dX7_breakingLetter_17 (by decide) ?_
      refine zz_icmp_eq (pc := 19) (tgt := 40) E dX7_breakingLetter_19 (by decide) (fun h19 => ?_) (fun h19 => ?_)
      · refine zz_bipush (pc := 40) (v := -9) E dX7_breakingLetter_40 (by decide) ?_
        exact zz_iret (pc := 42) E hr hlk dX7_breakingLetter_42 ⟨zfr_rf _ _, by rw [hnn]; rfl⟩
      · exact absurd hcl9 h19
  | some q =>
    have hq1 := zV_lt2 hV hs0 hc
    have hclq : M (1 + 2) s0 = nI q := by rw [hcl, hc]; rfl
    rw [hclq]
    have key : ∀ (j i : Nat) (M2 : zz_M), i + j = 3 → zfr [36, 37, 38, 39] M M2 → zbb S s0 = zfs (zbk S s0) i j → zz_Z p l e (headSpec wsX7_breakingLetter ({ frames := 4, cells := 0, slots := 0, locals := 131 } : Room)).room s m ([.ref (G.2.2 0), .int (nI s0)] : List Value).toArray below meth c 0 0 (MQ below (zz_Qi G (fun r M1 => zfr [36, 37, 38, 39] M M1 ∧ r = zo (zbb S s0))) ([.ref (G.2.2 0), .int (nI s0)] : List Value).toArray s 0 0 (zz_A G)) 4 G (zz_A G) M2 11 [(0, .ref (G.2.2 0)), (1, .int (nI s0)), (2, .int (nI q)), (3, .int (nI i))] [] := by
      intro j
      induction j with
      | zero =>
        intro i M2 hi hf he
        refine zz_iload_n (pc := 11) E dX7_breakingLetter_11 rfl ?_
        refine zz_iconst (pc := 12) (v := nI 3) E dX7_breakingLetter_12 (by decide) ?_
        refine zn_icmp_ge (pc := 13) (tgt := 40) E dX7_breakingLetter_13 (by decide) (by omega) (by omega) (fun h13 => ?_) (fun h13 => ?_)
        · refine zz_bipush (pc := 40) (v := -9) E dX7_breakingLetter_40 (by decide) ?_
          exact zz_iret (pc := 42) E hr hlk dX7_breakingLetter_42 ⟨hf, by rw [he]; rfl⟩
        · exact absurd h13 (by omega)
      | succ j ih =>
        intro i M2 hi hf he
        have hS2 : ztab M2 1 S := ztab_fr hS hf (by decide) (by decide)
        have hw2 : zfrm M2 (zfm S) 6 := fun t ht => zrow_fr (hw t ht) hf (by simp; omega) (by simp; omega)
        rw [zfs] at he
        refine zz_iload_n (pc := 11) E dX7_breakingLetter_11 rfl ?_
        refine zz_iconst (pc := 12) (v := nI 3) E dX7_breakingLetter_12 (by decide) ?_
        refine zn_icmp_ge (pc := 13) (tgt := 40) E dX7_breakingLetter_13 (by decide) (by omega) (by omega) (fun h13 => ?_) (fun h13 => ?_)
        · exact absurd h13 (by omega)
        · refine zz_iload_n (pc := 16) E dX7_breakingLetter_16 rfl ?_
          refine zz_bipush (pc := 17) (v := -9) E dX7_breakingLetter_17 (by decide) ?_
          refine zz_icmp_eq (pc := 19) (tgt := 40) E dX7_breakingLetter_19 (by decide) (fun h19 => ?_) (fun h19 => ?_)
          · exact absurd ((zo_m9 (o := some q) (fun x hx => by cases hx; omega)).mp h19) (by simp)
          · refine zz_aload_n (pc := 22) E dX7_breakingLetter_22 rfl ?_
            refine zz_iload_n (pc := 23) E dX7_breakingLetter_23 rfl ?_
            refine zz_iload_n (pc := 24) E dX7_breakingLetter_24 rfl ?_
            refine zz_iload_n (pc := 25) E dX7_breakingLetter_25 rfl ?_
            refine zz_ciV (pc := 26) E 0 (kkX7_isBrokenBy l G hJ _  S s0 q i hV hS2 hw2 hs0 (by omega) hc) (cwV 3 hts gX7_breakingLetter_X7_isBrokenBy rfl rfl rfl (by decide +kernel) ⟨Nat.le_of_ble_eq_true rfl, Nat.le_of_ble_eq_true rfl⟩) (by decide) rfl rfl rfl rfl (Nat.le_of_ble_eq_true rfl) dX7_breakingLetter_26 (fun r26 M26 q26 => ?_)
            obtain ⟨f26, rfl⟩ := q26
            refine zb_if_eq (pc := 29) (tgt := 34) E dX7_breakingLetter_29 (by decide) (fun h29 => ?_) (fun h29 => ?_)
            · rw [h29] at he
              refine zn_inc (pc := 34) (lv' := [(0, _), (1, _), (2, _), (3, _)]) E dX7_breakingLetter_34 rfl (by decide) rfl ?_
              refine zz_goto (pc := 37) (tgt := 11) E dX7_breakingLetter_37 (by decide) ?_
              exact zz_to (ih (i + 1) M26 (by omega) (zfr_ct hf f26 (fun _ h => h) (fun _ h => h)) he) ⟨rfl, rfl, rfl, rfl, trivial⟩
            · rw [if_pos h29] at he
              refine zz_iload_n (pc := 32) E dX7_breakingLetter_32 rfl ?_
              exact zz_iret (pc := 33) E hr hlk dX7_breakingLetter_33 ⟨zfr_ct hf f26 (fun _ h => h) (fun _ h => h), by rw [he]; rfl⟩
    exact zz_to (key 3 0 M (by omega) (zfr_rf _ _) rfl) ⟨rfl, rfl, rfl, rfl, trivial⟩

theorem inX7_brokenClaims_X7 : ∀ w ∈ u_ws RX7 TX7 8, w ∈ wsX7_brokenClaims := by decide +kernel
theorem lkX7_brokenClaims_49 : Cond.fieldLink RX7 49 RX7 "forms" "LFirstSigns$Forms;" ∈ wsX7_brokenClaims := by decide +kernel
theorem lkX7_brokenClaims_12 : Cond.fieldLink RX7 12 RX7 "table" "LFirstSigns$Table;" ∈ wsX7_brokenClaims := by decide +kernel
set_option maxHeartbeats 4000000 in
set_option maxRecDepth 100000 in
theorem kkX7_brokenClaims (l : Launch) (G : zz_C) (hJ : zz_J G) (M : zz_M) (S : Nat → Option Nat) (hV : zV S) (hS : ztab M 1 S) : Met l yX7_brokenClaims wsX7_brokenClaims ({ frames := 5, cells := 0, slots := 0, locals := 154 } : Room) (zz_P G M [.ref (G.2.2 0)]) (zz_Qi G (fun r M1 => zfr zKR M M1 ∧ r = nI (zbs S))) 0 0 (zz_A G) := by
  refine zz_start hJ (by decide) rfl (Nat.le_of_ble_eq_true rfl) ?_
  intro p e s m below meth c E hr hlk
  have hts := E.2.2.2.2.1
  show zz_Z p l e (headSpec wsX7_brokenClaims ({ frames := 5, cells := 0, slots := 0, locals := 154 } : Room)).room s m ([.ref (G.2.2 0)] : List Value).toArray below meth c 0 0 (MQ below (zz_Qi G (fun r M1 => zfr zKR M M1 ∧ r = nI (zbs S))) ([.ref (G.2.2 0)] : List Value).toArray s 0 0 (zz_A G)) 3 G (zz_A G) M 0 [(0, .ref (G.2.2 0))] []
  refine zz_aload_n (pc := 0) E dX7_brokenClaims_0 rfl ?_
  refine zz_gf (pc := 1) E 0 (by decide) rfl rfl inX7_brokenClaims_X7 5 (by decide) lkX7_brokenClaims_49 (fun _ h => h) rfl dX7_brokenClaims_1 ?_
  refine zz_aload_n (pc := 4) E dX7_brokenClaims_4 rfl ?_
  refine zz_gf (pc := 5) E 0 (by decide) rfl rfl inX7_brokenClaims_X7 0 (by decide) lkX7_brokenClaims_12 (fun _ h => h) rfl dX7_brokenClaims_5 ?_
  refine zz_cvV (pc := 8) E 22 (kkX1_find l G hJ _  S hV hS) (cwV 1 hts gX7_brokenClaims_X1_find rfl rfl rfl (by decide +kernel) ⟨Nat.le_of_ble_eq_true rfl, Nat.le_of_ble_eq_true rfl⟩) (by decide) rfl rfl rfl rfl (Nat.le_of_ble_eq_true rfl) dX7_brokenClaims_8 (fun M8 q8 => ?_)
  obtain ⟨f8, w8⟩ := q8
  refine zz_iconst (pc := 11) (v := nI 0) E dX7_brokenClaims_11 (by decide) ?_
  refine zz_istore_n (pc := 12) (lv' := [(0, _), (1, _)]) E dX7_brokenClaims_12 (by decide) rfl ?_
  refine zz_iconst (pc := 13) (v := nI 0) E dX7_brokenClaims_13 (by decide) ?_
  refine zz_istore_n (pc := 14) (lv' := [(0, _), (1, _), (2, _)]) E dX7_brokenClaims_14 (by decide) rfl ?_
  have key : ∀ (j i : Nat) (M2 : zz_M), i + j = 6 → zfr zKR M M2 → zfrm M2 (zfm S) 6 → zz_Z p l e (headSpec wsX7_brokenClaims ({ frames := 5, cells := 0, slots := 0, locals := 154 } : Room)).room s m ([.ref (G.2.2 0)] : List Value).toArray below meth c 0 0 (MQ below (zz_Qi G (fun r M1 => zfr zKR M M1 ∧ r = nI (zbs S))) ([.ref (G.2.2 0)] : List Value).toArray s 0 0 (zz_A G)) 3 G (zz_A G) M2 15 [(0, .ref (G.2.2 0)), (1, .int (nI (zbsf S i))), (2, .int (nI i))] [] := by
    intro j
    induction j with
    | zero =>
      intro i M2 hi hf hw
      refine zz_iload_n (pc := 15) E dX7_brokenClaims_15 rfl ?_
      refine zz_bipush (pc := 16) (v := nI 6) E dX7_brokenClaims_16 (by decide) ?_
      refine zn_icmp_ge (pc := 18) (tgt := 43) E dX7_brokenClaims_18 (by decide) (by omega) (by omega) (fun h18 => ?_) (fun h18 => ?_)
      · refine zz_iload_n (pc := 43) E dX7_brokenClaims_43 rfl ?_
        exact zz_iret (pc := 44) E hr hlk dX7_brokenClaims_44 ⟨hf, by rw [show i = 6 by omega]; rfl⟩
      · exact absurd h18 (by omega)
    | succ j ih =>
      intro i M2 hi hf hw
      have hS2 : ztab M2 1 S := ztab_fr hS hf (by decide) (by decide)
      have hlt : ∀ q, zbb S i = some q → q < 2 ^ 31 := fun q hq => by have := zfs_lt hq; omega
      refine zz_iload_n (pc := 15) E dX7_brokenClaims_15 rfl ?_
      refine zz_bipush (pc := 16) (v := nI 6) E dX7_brokenClaims_16 (by decide) ?_
      refine zn_icmp_ge (pc := 18) (tgt := 43) E dX7_brokenClaims_18 (by decide) (by omega) (by omega) (fun h18 => ?_) (fun h18 => ?_)
      · exact absurd h18 (by omega)
      · refine zz_aload_n (pc := 21) E dX7_brokenClaims_21 rfl ?_
        refine zz_iload_n (pc := 22) E dX7_brokenClaims_22 rfl ?_
        refine zz_ciV (pc := 23) E 0 (kkX7_breakingLetter l G hJ _  S i hV hS2 hw (by omega)) (cwV 1 hts gX7_brokenClaims_X7_breakingLetter rfl rfl rfl (by decide +kernel) ⟨Nat.le_of_ble_eq_true rfl, Nat.le_of_ble_eq_true rfl⟩) (by decide) rfl rfl rfl rfl (Nat.le_of_ble_eq_true rfl) dX7_brokenClaims_23 (fun r23 M23 q23 => ?_)
        obtain ⟨f23, rfl⟩ := q23
        refine zz_bipush (pc := 26) (v := -9) E dX7_brokenClaims_26 (by decide) ?_
        refine zz_icmp_eq (pc := 28) (tgt := 37) E dX7_brokenClaims_28 (by decide) (fun h28 => ?_) (fun h28 => ?_)
        · rw [zo_m9 hlt] at h28
          have hh : zbsf S (i + 1) = zbsf S i := by rw [zbsf, h28]
          refine zn_inc (pc := 37) (lv' := [(0, _), (1, _), (2, _)]) E dX7_brokenClaims_37 rfl (by decide) rfl ?_
          refine zz_goto (pc := 40) (tgt := 15) E dX7_brokenClaims_40 (by decide) ?_
          exact zz_to (ih (i + 1) M23 (by omega) (zfr_ct hf f23 (fun _ h => h) (by simp)) (fun t ht => zrow_fr (hw t ht) f23 (by simp; omega) (by simp; omega))) ⟨rfl, by rw [hh]; rfl, rfl, trivial⟩
        · obtain ⟨q, hq⟩ : ∃ q, zbb S i = some q := by
            cases hv2 : zbb S i with
            | none => exact absurd (by rw [hv2]; rfl) h28
            | some q => exact ⟨q, rfl⟩
          have hh : zbsf S (i + 1) = zbsf S i ||| 2 ^ i := by rw [zbsf, hq]
          refine zz_iload_n (pc := 31) E dX7_brokenClaims_31 rfl ?_
          refine zz_iconst (pc := 32) (v := nI 1) E dX7_brokenClaims_32 (by decide) ?_
          refine zz_iload_n (pc := 33) E dX7_brokenClaims_33 rfl ?_
          refine zz_ishl (pc := 34) E dX7_brokenClaims_34 ?_
          refine zz_eqi (y := nI (2 ^ i)) (zshl_ok i (by omega)) ?_
          refine zz_ior (pc := 35) E dX7_brokenClaims_35 ?_
          refine zz_eqi (y := nI (zbsf S i ||| 2 ^ i)) (zor_ok _ (zbsf_lt S i (by omega)) _ (zpw_lt i (by omega))) ?_
          refine zz_istore_n (pc := 36) (lv' := [(0, _), (1, _), (2, _)]) E dX7_brokenClaims_36 (by decide) rfl ?_
          refine zn_inc (pc := 37) (lv' := [(0, _), (1, _), (2, _)]) E dX7_brokenClaims_37 rfl (by decide) rfl ?_
          refine zz_goto (pc := 40) (tgt := 15) E dX7_brokenClaims_40 (by decide) ?_
          exact zz_to (ih (i + 1) M23 (by omega) (zfr_ct hf f23 (fun _ h => h) (by simp)) (fun t ht => zrow_fr (hw t ht) f23 (by simp; omega) (by simp; omega))) ⟨rfl, by rw [hh]; rfl, rfl, trivial⟩
  exact zz_to (key 6 0 M8 (by omega) (zfr_mono f8 (by simp)) w8) ⟨rfl, rfl, rfl, trivial⟩

theorem inX7_removeClaims_X7 : ∀ w ∈ u_ws RX7 TX7 8, w ∈ wsX7_removeClaims := by decide +kernel
theorem lkX7_removeClaims_12 : Cond.fieldLink RX7 12 RX7 "table" "LFirstSigns$Table;" ∈ wsX7_removeClaims := by decide +kernel
set_option maxHeartbeats 4000000 in
set_option maxRecDepth 100000 in
theorem kkX7_removeClaims (l : Launch) (G : zz_C) (hJ : zz_J G) (M : zz_M) (S : Nat → Option Nat) (w : Nat) (hS : ztab M 1 S) (hw : w < 64) : Met l yX7_removeClaims wsX7_removeClaims ({ frames := 2, cells := 0, slots := 0, locals := 42 } : Room) (zz_P G M [.ref (G.2.2 0), .int (nI w)]) (zz_Qv G (fun M1 => zfr [3] M M1 ∧ ztab M1 1 (zrmv S w))) 0 0 (zz_A G) := by
  refine zz_start hJ (by decide) rfl (Nat.le_of_ble_eq_true rfl) ?_
  intro p e s m below meth c E hr hlk
  have hts := E.2.2.2.2.1
  show zz_Z p l e (headSpec wsX7_removeClaims ({ frames := 2, cells := 0, slots := 0, locals := 42 } : Room)).room s m ([.ref (G.2.2 0), .int (nI w)] : List Value).toArray below meth c 0 0 (MQ below (zz_Qv G (fun M1 => zfr [3] M M1 ∧ ztab M1 1 (zrmv S w))) ([.ref (G.2.2 0), .int (nI w)] : List Value).toArray s 0 0 (zz_A G)) 3 G (zz_A G) M 0 [(0, .ref (G.2.2 0)), (1, .int (nI w))] []
  refine zz_iconst (pc := 0) (v := nI 0) E dX7_removeClaims_0 (by decide) ?_
  refine zz_istore_n (pc := 1) (lv' := [(0, _), (1, _), (2, _)]) E dX7_removeClaims_1 (by decide) rfl ?_
  have key : ∀ (j i : Nat) (M2 : zz_M), i + j = 6 → zfr [3] M M2 → (∀ q, q < i → M2 3 q = zo (zrmv S w (18 + q))) → (∀ q, i ≤ q → q < 6 → M2 3 q = zo (S (18 + q))) → zz_Z p l e (headSpec wsX7_removeClaims ({ frames := 2, cells := 0, slots := 0, locals := 42 } : Room)).room s m ([.ref (G.2.2 0), .int (nI w)] : List Value).toArray below meth c 0 0 (MQ below (zz_Qv G (fun M1 => zfr [3] M M1 ∧ ztab M1 1 (zrmv S w))) ([.ref (G.2.2 0), .int (nI w)] : List Value).toArray s 0 0 (zz_A G)) 3 G (zz_A G) M2 2 [(0, .ref (G.2.2 0)), (1, .int (nI w)), (2, .int (nI i))] [] := by
    intro j
    induction j with
    | zero =>
      intro i M2 hi hf h1 h2
      refine zz_iload_n (pc := 2) E dX7_removeClaims_2 rfl ?_
      refine zz_bipush (pc := 3) (v := nI 6) E dX7_removeClaims_3 (by decide) ?_
      refine zn_icmp_ge (pc := 5) (tgt := 33) E dX7_removeClaims_5 (by decide) (by omega) (by omega) (fun h5 => ?_) (fun h5 => ?_)
      · exact zz_vret (pc := 33) E hr hlk dX7_removeClaims_33 ⟨hf, fun q hq => by show M2 2 q = _; rw [hf 2 (by decide)]; unfold zrmv; rw [if_neg (by omega)]; exact hS.1 q hq, fun q hq => h1 q (by omega)⟩
      · exact absurd h5 (by omega)
    | succ j ih =>
      intro i M2 hi hf h1 h2
      refine zz_iload_n (pc := 2) E dX7_removeClaims_2 rfl ?_
      refine zz_bipush (pc := 3) (v := nI 6) E dX7_removeClaims_3 (by decide) ?_
      refine zn_icmp_ge (pc := 5) (tgt := 33) E dX7_removeClaims_5 (by decide) (by omega) (by omega) (fun h5 => ?_) (fun h5 => ?_)
      · exact absurd h5 (by omega)
      · refine zz_iload_n (pc := 8) E dX7_removeClaims_8 rfl ?_
        refine zz_iload_n (pc := 9) E dX7_removeClaims_9 rfl ?_
        refine zz_ishr (pc := 10) E dX7_removeClaims_10 ?_
        refine zz_iconst (pc := 11) (v := nI 1) E dX7_removeClaims_11 (by decide) ?_
        refine zz_iand (pc := 12) E dX7_removeClaims_12 ?_
        refine zz_iconst (pc := 13) (v := nI 1) E dX7_removeClaims_13 (by decide) ?_
        refine zz_icmp_ne (pc := 14) (tgt := 27) E dX7_removeClaims_14 (by decide) (fun h14 => ?_) (fun h14 => ?_)
        · have hb : ¬ zbit w i = true := fun q => h14 ((zbit_ok w hw i (by omega)).mpr q)
          refine zn_inc (pc := 27) (lv' := [(0, _), (1, _), (2, _)]) E dX7_removeClaims_27 rfl (by decide) rfl ?_
          refine zz_goto (pc := 30) (tgt := 2) E dX7_removeClaims_30 (by decide) ?_
          exact zz_to (ih (i + 1) M2 (by omega) hf (fun q hq => by by_cases e : q = i; rw [e, h2 i (Nat.le_refl _) (by omega)]; unfold zrmv; rw [if_neg (fun z => hb (by rw [show 18 + i - 18 = i by omega] at z; exact z.2.2))]; exact h1 q (by omega)) (fun q q1 q2 => h2 q (by omega) q2)) ⟨rfl, rfl, rfl, trivial⟩
        · have hb : zbit w i = true := (zbit_ok w hw i (by omega)).mp h14
          refine zz_aload_n (pc := 17) E dX7_removeClaims_17 rfl ?_
          refine zz_gf (pc := 18) E 0 (by decide) rfl rfl inX7_removeClaims_X7 0 (by decide) lkX7_removeClaims_12 (fun _ h => h) rfl dX7_removeClaims_18 ?_
          refine zz_iload_n (pc := 21) E dX7_removeClaims_21 rfl ?_
          refine zz_bipush (pc := 22) (v := -9) E dX7_removeClaims_22 (by decide) ?_
          refine zz_cvV (pc := 24) E 1 (kkX6_setClaim l G hJ _ _ zz_T1 _ _ (by omega)) (cwV 2 hts gX7_removeClaims_X6_setClaim rfl rfl rfl (by decide +kernel) ⟨Nat.le_of_ble_eq_true rfl, Nat.le_of_ble_eq_true rfl⟩) (by decide) rfl rfl rfl rfl (Nat.le_of_ble_eq_true rfl) dX7_removeClaims_24 (fun M24 q24 => ?_)
          obtain rfl := q24
          refine zn_inc (pc := 27) (lv' := [(0, _), (1, _), (2, _)]) E dX7_removeClaims_27 rfl (by decide) rfl ?_
          refine zz_goto (pc := 30) (tgt := 2) E dX7_removeClaims_30 (by decide) ?_
          exact zz_to (ih (i + 1) _ (by omega) (zfr_up hf (by simp)) (fun q hq => by show zz_up M2 3 _ 3 q = _; rw [zz_up_same]; by_cases e : q = i; rw [e, upd_same]; unfold zrmv; rw [if_pos ⟨by omega, by omega, by rw [show 18 + i - 18 = i by omega]; exact hb⟩]; rfl; rw [upd_ne _ _ e]; exact h1 q (by omega)) (fun q q1 q2 => by show zz_up M2 3 _ 3 q = _; rw [zz_up_same, upd_ne _ _ (by omega)]; exact h2 q (by omega) q2)) ⟨rfl, rfl, rfl, trivial⟩
  exact zz_to (key 6 0 M (by omega) (zfr_rf _ _) (fun q hq => absurd hq (by omega)) (fun q _ hq => hS.2 q hq)) ⟨rfl, rfl, rfl, trivial⟩
