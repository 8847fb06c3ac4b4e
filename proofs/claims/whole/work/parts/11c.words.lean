theorem zbr_0 (S : Nat → Option Nat) (W : Nat → Nat → Int32) (s : Nat) : ∀ l, zbr S W s 0 l = 0
  | 0 => rfl
  | l + 1 => by
    rw [zbr, zbr_0 S W s l]
    cases S (3 * s + l) with
    | none => rfl
    | some r => show 0 + 0 = (0 : Int32); rfl
theorem zcw_0 (S : Nat → Option Nat) : ∀ (m x : Nat), zcw S m x 0 = 0
  | 0, x => rfl
  | m + 1, x => by
    by_cases e : 0 = m
    · subst e; rw [zcw_at, zbr_0]
    · rw [zcw_lt e]; exact zcw_0 S m x
/-- what the reference counts of a row is what the class counts -/
theorem zfc_row {S : Nat → Option Nat} {W : Nat → Nat → Int32} {r mo m k : Nat} (hz : zok r 6 mo = true) (hk : m < k) (hW : ∀ s, s < 6 → ∀ q, q < k → W s q = zcw S k s q) : zfc W zdl (zr r) m = zrc (zcw S k) (zr r) m := by
  rw [zfc_rc (zr r) zdl m (fun x hx => by rw [hW x (zr_lt hz x hx) 0 (by omega), zcw_0]), zcx_dl]
  exact zrc_congr (fun x hx i hi => hW x (zr_lt hz x hx) i (by omega))

theorem inX8_countsSigns_X8 : ∀ w ∈ u_ws RX8 TX8 14, w ∈ wsX8_countsSigns := by decide +kernel
theorem lkX8_countsSigns_7 : Cond.fieldLink RX8 7 RX8 "told" "[I" ∈ wsX8_countsSigns := by decide +kernel
theorem lkX8_countsSigns_22 : Cond.fieldLink RX8 22 RX8 "wordsOf" "[I" ∈ wsX8_countsSigns := by decide +kernel
theorem lkX8_countsSigns_25 : Cond.fieldLink RX8 25 RX8 "counted" "[I" ∈ wsX8_countsSigns := by decide +kernel
set_option maxHeartbeats 4000000 in
set_option maxRecDepth 100000 in
theorem kkX8_countsSigns (l : Launch) (G : zz_C) (hJ : zz_J G) (M : zz_M) (S : Nat → Option Nat) (n : Nat) (hV : zV S) (hS : ztl M S) (hn : n ≤ 12) : Met l yX8_countsSigns wsX8_countsSigns ({ frames := 3, cells := 0, slots := 0, locals := 74 } : Room) (zz_P G M [.ref (G.2.2 100), .int (nI n)]) (zz_Qv G (fun M1 => zfr [105, 106, 107] M M1 ∧ ∀ s, s < 6 → ∀ q, q ≤ n → M1 105 (13 * s + q) = zcw S (n + 1) s q)) 0 0 (zz_A G) := by
  refine zz_start hJ (by decide) rfl (Nat.le_of_ble_eq_true rfl) ?_
  intro p e s m below meth c E hr hlk
  have hts := E.2.2.2.2.1
  show zz_Z p l e (headSpec wsX8_countsSigns ({ frames := 3, cells := 0, slots := 0, locals := 74 } : Room)).room s m ([.ref (G.2.2 100), .int (nI n)] : List Value).toArray below meth c 0 0 (MQ below (zz_Qv G (fun M1 => zfr [105, 106, 107] M M1 ∧ ∀ s, s < 6 → ∀ q, q ≤ n → M1 105 (13 * s + q) = zcw S (n + 1) s q)) ([.ref (G.2.2 100), .int (nI n)] : List Value).toArray s 0 0 (zz_A G)) 4 G (zz_A G) M 0 [(0, .ref (G.2.2 100)), (1, .int (nI n))] []
  refine zz_iconst (pc := 0) (v := nI 0) E dX8_countsSigns_0 (by decide) ?_
  refine zz_istore_n (pc := 1) (lv' := [(0, _), (1, _), (2, _)]) E dX8_countsSigns_1 (by decide) rfl ?_
  have key0 : ∀ (j i : Nat) (M2 : zz_M), i + j = 78 → zfr [105, 106, 107] M M2 → (∀ t, t < i → M2 105 t = 0) → zz_Z p l e (headSpec wsX8_countsSigns ({ frames := 3, cells := 0, slots := 0, locals := 74 } : Room)).room s m ([.ref (G.2.2 100), .int (nI n)] : List Value).toArray below meth c 0 0 (MQ below (zz_Qv G (fun M1 => zfr [105, 106, 107] M M1 ∧ ∀ s, s < 6 → ∀ q, q ≤ n → M1 105 (13 * s + q) = zcw S (n + 1) s q)) ([.ref (G.2.2 100), .int (nI n)] : List Value).toArray s 0 0 (zz_A G)) 4 G (zz_A G) M2 2 [(0, .ref (G.2.2 100)), (1, .int (nI n)), (2, .int (nI i))] [] := by
    intro j
    induction j with
    | zero =>
      intro i M2 hi hf hq
      refine zz_iload_n (pc := 2) E dX8_countsSigns_2 rfl ?_
      refine zz_bipush (pc := 3) (v := nI 78) E dX8_countsSigns_3 (by decide) ?_
      refine zn_icmp_ge (pc := 5) (tgt := 21) E dX8_countsSigns_5 (by decide) (by omega) (by omega) (fun h5 => ?_) (fun h5 => ?_)
      · refine zz_iconst (pc := 21) (v := nI 1) E dX8_countsSigns_21 (by decide) ?_
        refine zz_istore_n (pc := 22) (lv' := [(0, _), (1, _), (2, _)]) E dX8_countsSigns_22 (by decide) rfl ?_
        have key1 : ∀ (j1 k : Nat) (M3 : zz_M), k + j1 = n + 1 → 1 ≤ k → zfr [105, 106, 107] M M3 → (∀ s, s < 6 → ∀ q, q < 13 → M3 105 (13 * s + q) = if q < k then zcw S k s q else 0) → zz_Z p l e (headSpec wsX8_countsSigns ({ frames := 3, cells := 0, slots := 0, locals := 74 } : Room)).room s m ([.ref (G.2.2 100), .int (nI n)] : List Value).toArray below meth c 0 0 (MQ below (zz_Qv G (fun M1 => zfr [105, 106, 107] M M1 ∧ ∀ s, s < 6 → ∀ q, q ≤ n → M1 105 (13 * s + q) = zcw S (n + 1) s q)) ([.ref (G.2.2 100), .int (nI n)] : List Value).toArray s 0 0 (zz_A G)) 4 G (zz_A G) M3 23 [(0, .ref (G.2.2 100)), (1, .int (nI n)), (2, .int (nI k))] [] := by
          intro j1
          induction j1 with
          | zero =>
            intro k M3 hk hk1 hf3 hq3
            refine zz_iload_n (pc := 23) E dX8_countsSigns_23 rfl ?_
            refine zz_iload_n (pc := 24) E dX8_countsSigns_24 rfl ?_
            refine zn_icmp_gt (pc := 25) (tgt := 96) E dX8_countsSigns_25 (by decide) (by omega) (by omega) (fun h25 => ?_) (fun h25 => ?_)
            · exact zz_vret (pc := 96) E hr hlk dX8_countsSigns_96 ⟨hf3, fun s hs q hq1 => by rw [hq3 s hs q (by omega), if_pos (by omega), show k = n + 1 by omega]⟩
            · exact absurd h25 (by omega)
          | succ j1 ih1 =>
            intro k M3 hk hk1 hf3 hq3
            refine zz_iload_n (pc := 23) E dX8_countsSigns_23 rfl ?_
            refine zz_iload_n (pc := 24) E dX8_countsSigns_24 rfl ?_
            refine zn_icmp_gt (pc := 25) (tgt := 96) E dX8_countsSigns_25 (by decide) (by omega) (by omega) (fun h25 => ?_) (fun h25 => ?_)
            · exact absurd h25 (by omega)
            · refine zz_iconst (pc := 28) (v := nI 0) E dX8_countsSigns_28 (by decide) ?_
              refine zz_istore_n (pc := 29) (lv' := [(0, _), (1, _), (2, _), (3, _)]) E dX8_countsSigns_29 (by decide) rfl ?_
              have key2 : ∀ (j2 i2 : Nat) (M4 : zz_M), i2 + j2 = 18 → zfr [105, 106, 107] M M4 → (∀ s, s < 6 → ∀ q, q < 13 → M4 105 (13 * s + q) = if q < k then zcw S k s q else if q = k then zbr S (zcw S k) s k (min 3 (i2 - 3 * s)) else 0) → zz_Z p l e (headSpec wsX8_countsSigns ({ frames := 3, cells := 0, slots := 0, locals := 74 } : Room)).room s m ([.ref (G.2.2 100), .int (nI n)] : List Value).toArray below meth c 0 0 (MQ below (zz_Qv G (fun M1 => zfr [105, 106, 107] M M1 ∧ ∀ s, s < 6 → ∀ q, q ≤ n → M1 105 (13 * s + q) = zcw S (n + 1) s q)) ([.ref (G.2.2 100), .int (nI n)] : List Value).toArray s 0 0 (zz_A G)) 4 G (zz_A G) M4 30 [(0, .ref (G.2.2 100)), (1, .int (nI n)), (2, .int (nI k)), (3, .int (nI i2))] [] := by
                intro j2
                induction j2 with
                | zero =>
                  intro i2 M4 hi2 hf4 hq4
                  refine zz_iload_n (pc := 30) E dX8_countsSigns_30 rfl ?_
                  refine zz_bipush (pc := 31) (v := nI 18) E dX8_countsSigns_31 (by decide) ?_
                  refine zn_icmp_ge (pc := 33) (tgt := 90) E dX8_countsSigns_33 (by decide) (by omega) (by omega) (fun h33 => ?_) (fun h33 => ?_)
                  · refine zn_inc (pc := 90) (lv' := [(0, _), (1, _), (2, _), (3, _)]) E dX8_countsSigns_90 rfl (by decide) rfl ?_
                    refine zz_goto (pc := 93) (tgt := 23) E dX8_countsSigns_93 (by decide) ?_
                    exact zz_to (ih1 (k + 1) M4 (by omega) (by omega) hf4 (fun s hs q hq1 => by rw [hq4 s hs q hq1]; by_cases e : q < k; rw [if_pos e, if_pos (by omega), zcw_lt (by omega)]; rw [if_neg e]; by_cases e2 : q = k; rw [if_pos e2, if_pos (by omega), e2, zcw_at, show min 3 (i2 - 3 * s) = 3 by omega]; rw [if_neg e2, if_neg (by omega)])) ⟨rfl, rfl, rfl, trivial⟩
                  · exact absurd h33 (by omega)
                | succ j2 ih2 =>
                  intro i2 M4 hi2 hf4 hq4
                  have h101 : M4 101 i2 = zo (S i2) := by rw [hf4 101 (by decide)]; exact hS i2 (by omega)
                  have hlti : ∀ q, S i2 = some q → q < 2 ^ 31 := fun q hq => by have := zV_lt hV (by omega) hq; omega
                  have hstep : zbr S (zcw S k) (i2 / 3) k (i2 % 3 + 1) = match S i2 with | none => zbr S (zcw S k) (i2 / 3) k (i2 % 3) | some r => zbr S (zcw S k) (i2 / 3) k (i2 % 3) + zrc1 (zcw S k) (zr r) k := by
                    rw [zbr, show 3 * (i2 / 3) + i2 % 3 = i2 by omega]
                    rfl
                  have hm1 : min 3 (i2 - 3 * (i2 / 3)) = i2 % 3 := by omega
                  have hm2 : min 3 (i2 + 1 - 3 * (i2 / 3)) = i2 % 3 + 1 := by omega
                  refine zz_iload_n (pc := 30) E dX8_countsSigns_30 rfl ?_
                  refine zz_bipush (pc := 31) (v := nI 18) E dX8_countsSigns_31 (by decide) ?_
                  refine zn_icmp_ge (pc := 33) (tgt := 90) E dX8_countsSigns_33 (by decide) (by omega) (by omega) (fun h33 => ?_) (fun h33 => ?_)
                  · exact absurd h33 (by omega)
                  · refine zz_aload_n (pc := 36) E dX8_countsSigns_36 rfl ?_
                    refine zz_gf (pc := 37) E 100 (by decide) rfl rfl inX8_countsSigns_X8 0 (by decide) lkX8_countsSigns_7 (fun _ h => h) rfl dX8_countsSigns_37 ?_
                    refine zz_iload_n (pc := 40) E dX8_countsSigns_40 rfl ?_
                    refine zz_iald (pc := 41) E 101 (_) (n := 24) (by decide) rfl rfl (by omega) (by decide) dX8_countsSigns_41 ?_
                    refine zz_eqi (y := zo (S i2)) h101 ?_
                    refine zz_bipush (pc := 42) (v := -9) E dX8_countsSigns_42 (by decide) ?_
                    refine zz_icmp_eq (pc := 44) (tgt := 84) E dX8_countsSigns_44 (by decide) (fun h44 => ?_) (fun h44 => ?_)
                    · rw [zo_m9 hlti] at h44
                      rw [h44] at hstep
                      refine zn_inc (pc := 84) (lv' := [(0, _), (1, _), (2, _), (3, _)]) E dX8_countsSigns_84 rfl (by decide) rfl ?_
                      refine zz_goto (pc := 87) (tgt := 30) E dX8_countsSigns_87 (by decide) ?_
                      exact zz_to (ih2 (i2 + 1) M4 (by omega) hf4 (fun s hs q hq1 => by rw [hq4 s hs q hq1]; by_cases e1 : q < k; rw [if_pos e1, if_pos e1]; rw [if_neg e1, if_neg e1]; by_cases e2 : q = k; rw [if_pos e2, if_pos e2]; by_cases es : s = i2 / 3; rw [es, hm1, hm2, hstep]; rw [show min 3 (i2 - 3 * s) = min 3 (i2 + 1 - 3 * s) by omega]; rw [if_neg e2, if_neg e2])) ⟨rfl, rfl, rfl, rfl, trivial⟩
                    · obtain ⟨r, hrr⟩ : ∃ q, S i2 = some q := by
                        cases hv2 : S i2 with
                        | none => exact absurd (by rw [hv2]; rfl) h44
                        | some q => exact ⟨q, rfl⟩
                      have hzr := hV.1 i2 (by omega) r hrr
                      rw [hrr] at hstep
                      have hWW : ∀ s, s < 6 → ∀ q, q < k → zW8 M4 s q = zcw S k s q := fun s hs q hq1 => by show M4 105 (13 * s + q) = _; rw [hq4 s hs q (by omega), if_pos hq1]
                      refine zz_aload_n (pc := 47) E dX8_countsSigns_47 rfl ?_
                      refine zz_aload_n (pc := 48) E dX8_countsSigns_48 rfl ?_
                      refine zz_gf (pc := 49) E 100 (by decide) rfl rfl inX8_countsSigns_X8 0 (by decide) lkX8_countsSigns_7 (fun _ h => h) rfl dX8_countsSigns_49 ?_
                      refine zz_iload_n (pc := 52) E dX8_countsSigns_52 rfl ?_
                      refine zz_iald (pc := 53) E 101 (_) (n := 24) (by decide) rfl rfl (by omega) (by decide) dX8_countsSigns_53 ?_
                      refine zz_eqi (y := nI r) (by rw [h101, hrr]; rfl) ?_
                      refine zz_iload_n (pc := 54) E dX8_countsSigns_54 rfl ?_
                      refine zz_iconst (pc := 55) (v := nI 1) E dX8_countsSigns_55 (by decide) ?_
                      refine zn_isub (pc := 56) E dX8_countsSigns_56 (by omega) ?_
                      refine zz_cvV (pc := 57) E 100 (kkX8_countsRow l G hJ _  r 3 (k - 1) hzr (by decide) (by omega)) (cwV 2 hts gX8_countsSigns_X8_countsRow rfl rfl rfl (by decide +kernel) ⟨Nat.le_of_ble_eq_true rfl, Nat.le_of_ble_eq_true rfl⟩) (by decide) rfl rfl rfl rfl (Nat.le_of_ble_eq_true rfl) dX8_countsSigns_57 (fun M57 q57 => ?_)
                      obtain ⟨f57, w57⟩ := q57
                      have hcnt : M57 106 (k - 1) = zrc1 (zcw S k) (zr r) k := by
                        rw [w57 _ (Nat.le_refl _), zfc_row hzr (by omega) hWW]
                        obtain ⟨k, rfl⟩ : ∃ q, k = q + 1 := ⟨k - 1, by omega⟩
                        rfl
                      have h105 : M57 105 = M4 105 := f57 105 (by decide)
                      refine zz_aload_n (pc := 60) E dX8_countsSigns_60 rfl ?_
                      refine zz_gf (pc := 61) E 100 (by decide) rfl rfl inX8_countsSigns_X8 6 (by decide) lkX8_countsSigns_22 (fun _ h => h) rfl dX8_countsSigns_61 ?_
                      refine zz_bipush (pc := 64) (v := nI 13) E dX8_countsSigns_64 (by decide) ?_
                      refine zz_iload_n (pc := 66) E dX8_countsSigns_66 rfl ?_
                      refine zz_iconst (pc := 67) (v := nI 3) E dX8_countsSigns_67 (by decide) ?_
                      refine zn_idiv (pc := 68) E dX8_countsSigns_68 (by omega) (by omega) (by omega) ?_
                      refine zn_imul (pc := 69) E dX8_countsSigns_69 ?_
                      refine zz_iload_n (pc := 70) E dX8_countsSigns_70 rfl ?_
                      refine zn_iadd (pc := 71) E dX8_countsSigns_71 ?_
                      refine zz_dup2 (pc := 72) E dX8_countsSigns_72 rfl rfl ?_
                      refine zz_iald (pc := 73) E 105 (13 * (i2 / 3) + k) (n := 78) (by decide) rfl rfl (by omega) (by decide) dX8_countsSigns_73 ?_
                      refine zz_aload_n (pc := 74) E dX8_countsSigns_74 rfl ?_
                      refine zz_gf (pc := 75) E 100 (by decide) rfl rfl inX8_countsSigns_X8 7 (by decide) lkX8_countsSigns_25 (fun _ h => h) rfl dX8_countsSigns_75 ?_
                      refine zz_iload_n (pc := 78) E dX8_countsSigns_78 rfl ?_
                      refine zz_iconst (pc := 79) (v := nI 1) E dX8_countsSigns_79 (by decide) ?_
                      refine zn_isub (pc := 80) E dX8_countsSigns_80 (by omega) ?_
                      refine zz_iald (pc := 81) E 106 (k - 1) (n := 13) (by decide) rfl rfl (by omega) (by decide) dX8_countsSigns_81 ?_
                      refine zz_eqi (y := zrc1 (zcw S k) (zr r) k) hcnt ?_
                      refine zz_iadd (pc := 82) E dX8_countsSigns_82 ?_
                      refine zz_iast (pc := 83) E 105 (13 * (i2 / 3) + k) (n := 78) (by decide) (fun _ => rfl) rfl (by omega) (by decide) dX8_countsSigns_83 ?_
                      refine zn_inc (pc := 84) (lv' := [(0, _), (1, _), (2, _), (3, _)]) E dX8_countsSigns_84 rfl (by decide) rfl ?_
                      refine zz_goto (pc := 87) (tgt := 30) E dX8_countsSigns_87 (by decide) ?_
                      exact zz_to (ih2 (i2 + 1) _ (by omega) (zfr_up (zfr_ct hf4 f57 (fun _ h => h) (by simp)) (by simp)) (fun s hs q hq1 => by rw [zz_up_same]; by_cases e : 13 * s + q = 13 * (i2 / 3) + k; (have es : s = i2 / 3 := by omega); (have eq2 : q = k := by omega); rw [e, upd_same, h105, hq4 (i2 / 3) (by omega) k (by omega), es, eq2, if_neg (by omega), if_pos rfl, if_neg (by omega), if_pos rfl, hm1, hm2, hstep]; rw [upd_ne _ _ e, h105, hq4 s hs q hq1]; by_cases e1 : q < k; rw [if_pos e1, if_pos e1]; rw [if_neg e1, if_neg e1]; by_cases e2 : q = k; rw [if_pos e2, if_pos e2, show min 3 (i2 - 3 * s) = min 3 (i2 + 1 - 3 * s) by omega]; rw [if_neg e2, if_neg e2])) ⟨rfl, rfl, rfl, rfl, trivial⟩
              exact zz_to (key2 18 0 M3 (by omega) hf3 (fun s hs q hq1 => by rw [hq3 s hs q hq1]; by_cases e : q < k; rw [if_pos e, if_pos e]; rw [if_neg e, if_neg e, show min 3 (0 - 3 * s) = 0 by omega]; by_cases e2 : q = k; rw [if_pos e2]; rfl; rw [if_neg e2])) ⟨rfl, rfl, rfl, rfl, trivial⟩
        exact zz_to (key1 n 1 M2 (by omega) (Nat.le_refl _) hf (fun s hs q hq1 => by rw [hq _ (by omega)]; by_cases e : q < 1; rw [if_pos e, show q = 0 by omega, zcw_0]; rw [if_neg e])) ⟨rfl, rfl, rfl, trivial⟩
      · exact absurd h5 (by omega)
    | succ j ih =>
      intro i M2 hi hf hq
      refine zz_iload_n (pc := 2) E dX8_countsSigns_2 rfl ?_
      refine zz_bipush (pc := 3) (v := nI 78) E dX8_countsSigns_3 (by decide) ?_
      refine zn_icmp_ge (pc := 5) (tgt := 21) E dX8_countsSigns_5 (by decide) (by omega) (by omega) (fun h5 => ?_) (fun h5 => ?_)
      · exact absurd h5 (by omega)
      · refine zz_aload_n (pc := 8) E dX8_countsSigns_8 rfl ?_
        refine zz_gf (pc := 9) E 100 (by decide) rfl rfl inX8_countsSigns_X8 6 (by decide) lkX8_countsSigns_22 (fun _ h => h) rfl dX8_countsSigns_9 ?_
        refine zz_iload_n (pc := 12) E dX8_countsSigns_12 rfl ?_
        refine zz_iconst (pc := 13) (v := nI 0) E dX8_countsSigns_13 (by decide) ?_
        refine zz_iast (pc := 14) E 105 (_) (n := 78) (by decide) (fun _ => rfl) rfl (by omega) (by decide) dX8_countsSigns_14 ?_
        refine zn_inc (pc := 15) (lv' := [(0, _), (1, _), (2, _)]) E dX8_countsSigns_15 rfl (by decide) rfl ?_
        refine zz_goto (pc := 18) (tgt := 2) E dX8_countsSigns_18 (by decide) ?_
        exact zz_to (ih (i + 1) _ (by omega) (zfr_up hf (by simp)) (fun s hs => by rw [zz_up_same]; by_cases e : s = i; rw [e, upd_same]; rfl; rw [upd_ne _ _ e]; exact hq s (by omega))) ⟨rfl, rfl, rfl, trivial⟩
  exact zz_to (key0 78 0 M (by omega) (zfr_rf _ _) (fun s hs => absurd hs (by omega))) ⟨rfl, rfl, rfl, trivial⟩

theorem inX8_words_X8 : ∀ w ∈ u_ws RX8 TX8 14, w ∈ wsX8_words := by decide +kernel
theorem lkX8_words_25 : Cond.fieldLink RX8 25 RX8 "counted" "[I" ∈ wsX8_words := by decide +kernel
set_option maxHeartbeats 4000000 in
set_option maxRecDepth 100000 in
theorem kkX8_words (l : Launch) (G : zz_C) (hJ : zz_J G) (M : zz_M) (S : Nat → Option Nat) (hs : List (Nat → Option Nat)) (x y : Int32) (hI : zJ M S hs) : Met l yX8_words wsX8_words ({ frames := 4, cells := 0, slots := 0, locals := 97 } : Room) (zz_P G M [.ref (G.2.2 100), .int x, .int y]) (zz_Qi G (fun r M1 => zhi M M1 ∧ zJ M1 S hs ∧ r = sp_words S x y)) 0 0 (zz_A G) := by
  refine zz_start hJ (by decide) rfl (Nat.le_of_ble_eq_true rfl) ?_
  intro p e s m below meth c E hr hlk
  have hts := E.2.2.2.2.1
  show zz_Z p l e (headSpec wsX8_words ({ frames := 4, cells := 0, slots := 0, locals := 97 } : Room)).room s m ([.ref (G.2.2 100), .int x, .int y] : List Value).toArray below meth c 0 0 (MQ below (zz_Qi G (fun r M1 => zhi M M1 ∧ zJ M1 S hs ∧ r = sp_words S x y)) ([.ref (G.2.2 100), .int x, .int y] : List Value).toArray s 0 0 (zz_A G)) 3 G (zz_A G) M 0 [(0, .ref (G.2.2 100)), (1, .int x), (2, .int y)] []
  refine zz_iload_n (pc := 0) E dX8_words_0 rfl ?_
  refine zz_bipush (pc := 1) (v := nI 9) E dX8_words_1 (by decide) ?_
  refine zz_ciS (pc := 3) E (kkX8_isRow l G hJ _ _ _ (by decide)) (va_cwS 2 hts gX8_words_X8_isRow rfl rfl rfl (by decide +kernel) ⟨Nat.le_of_ble_eq_true rfl, Nat.le_of_ble_eq_true rfl⟩) rfl rfl (Nat.le_of_ble_eq_true rfl) dX8_words_3 (fun r3 M3 q3 => ?_)
  obtain ⟨rfl, rfl⟩ := q3
  refine zb_if_eq (pc := 6) (tgt := 19) E dX8_words_6 (by decide) (fun h6 => ?_) (fun h6 => ?_)
  · have hsp : sp_words S x y = -2 := by unfold sp_words; rw [if_neg (by rw [h6]; simp)]
    refine zz_bipush (pc := 19) (v := -2) E dX8_words_19 (by decide) ?_
    exact zz_iret (pc := 21) E hr hlk dX8_words_21 ⟨zhi_rf _, hI, by rw [hsp]⟩
  · refine zz_iload_n (pc := 9) E dX8_words_9 rfl ?_
    refine zz_iconst (pc := 10) (v := nI 0) E dX8_words_10 (by decide) ?_
    refine zz_bipush (pc := 11) (v := nI 12) E dX8_words_11 (by decide) ?_
    refine zz_ciS (pc := 13) E (kkX8_within l G hJ _ _ _ _ ) (va_cwS 3 hts gX8_words_X8_within rfl rfl rfl (by decide +kernel) ⟨Nat.le_of_ble_eq_true rfl, Nat.le_of_ble_eq_true rfl⟩) rfl rfl (Nat.le_of_ble_eq_true rfl) dX8_words_13 (fun r13 M13 q13 => ?_)
    obtain ⟨rfl, rfl⟩ := q13
    refine zb_if_ne (pc := 16) (tgt := 22) E dX8_words_16 (by decide) (fun h16 => ?_) (fun h16 => ?_)
    · rw [zp_w_0 (by decide)] at h16
      obtain ⟨a, hxa, hza, han, ha9, ha31⟩ := zs_row_of h6 (by decide)
      obtain ⟨n, hn, hyn⟩ := zp_in_of h16 (by decide)
      have hsp : sp_words S x y = zrc (zcw S (n + 1)) (zr a) n := by unfold sp_words; rw [if_pos (by rw [h6, h16]; rfl), ← han, hyn, nI_nat (by omega)]
      refine zz_aload_n (pc := 22) E dX8_words_22 rfl ?_
      refine zz_iload_n (pc := 23) E dX8_words_23 rfl ?_
      refine zz_eqi (y := nI n) hyn ?_
      refine zz_cvV (pc := 24) E 100 (kkX8_countsSigns l G hJ _  S n hI.1 hI.2.2.1 (by omega)) (cwV 1 hts gX8_words_X8_countsSigns rfl rfl rfl (by decide +kernel) ⟨Nat.le_of_ble_eq_true rfl, Nat.le_of_ble_eq_true rfl⟩) (by decide) rfl rfl rfl rfl (Nat.le_of_ble_eq_true rfl) dX8_words_24 (fun M24 q24 => ?_)
      obtain ⟨f24, w24⟩ := q24
      refine zz_aload_n (pc := 27) E dX8_words_27 rfl ?_
      refine zz_iload_n (pc := 28) E dX8_words_28 rfl ?_
      refine zz_eqi (y := nI a) hxa ?_
      refine zz_iload_n (pc := 29) E dX8_words_29 rfl ?_
      refine zz_eqi (y := nI n) hyn ?_
      refine zz_cvV (pc := 30) E 100 (kkX8_countsRow l G hJ _  a 9 n hza (by decide) (by omega)) (cwV 2 hts gX8_words_X8_countsRow rfl rfl rfl (by decide +kernel) ⟨Nat.le_of_ble_eq_true rfl, Nat.le_of_ble_eq_true rfl⟩) (by decide) rfl rfl rfl rfl (Nat.le_of_ble_eq_true rfl) dX8_words_30 (fun M30 q30 => ?_)
      obtain ⟨f30, w30⟩ := q30
      have hf := zfr_ct f24 f30 (ks := [105, 106, 107]) (fun _ h => h) (by simp)
      have hres : M30 106 n = zrc (zcw S (n + 1)) (zr a) n := by rw [w30 n (Nat.le_refl _)]; exact zfc_row hza (by omega) (fun s hs q hq => w24 s hs q (by omega))
      refine zz_aload_n (pc := 33) E dX8_words_33 rfl ?_
      refine zz_gf (pc := 34) E 100 (by decide) rfl rfl inX8_words_X8 7 (by decide) lkX8_words_25 (fun _ h => h) rfl dX8_words_34 ?_
      refine zz_iload_n (pc := 37) E dX8_words_37 rfl ?_
      refine zz_eqi (y := nI n) hyn ?_
      refine zz_iald (pc := 38) E 106 (_) (n := 13) (by decide) rfl rfl (by omega) (by decide) dX8_words_38 ?_
      exact zz_iret (pc := 39) E hr hlk dX8_words_39 ⟨zfr_hi hf (by decide), zJ_mf hI (zmf_fr hf (by decide)) (by decide) (by decide), by rw [hsp]; exact hres⟩
    · rw [zp_w_0 (by decide)] at h16
      have hsp : sp_words S x y = -2 := by unfold sp_words; rw [if_neg (by rw [h16]; simp)]
      refine zz_bipush (pc := 19) (v := -2) E dX8_words_19 (by decide) ?_
      exact zz_iret (pc := 21) E hr hlk dX8_words_21 ⟨zhi_rf _, hI, by rw [hsp]⟩
