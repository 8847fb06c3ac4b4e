theorem zbest_first {S v : Nat → Option Nat} {s : Nat} : ∀ {l a m : Nat}, (zbest S v s l).1 = some a → (zbest S v s l).2 = some m → ∀ b, b < a → ∀ k, zby S v s (some b) = some k → m < k
  | 0, a, m, h, _, b, hb, k, hk => by cases h
  | l + 1, a, m, h1, h2, b, hb, k, hk => by
    rw [zbest] at h1 h2
    cases hz : zby S v s (some l) with
    | none =>
      rw [hz] at h1 h2
      exact zbest_first h1 h2 b hb k hk
    | some q =>
      rw [hz] at h1 h2
      cases hn : (zbest S v s l).2 with
      | none =>
        rw [hn] at h1 h2
        have h1 : some l = some a := h1
        cases h1
        obtain ⟨x, hx, -⟩ := zbest_ub (S := S) (v := v) (s := s) hb k hk
        rw [hn] at hx
        cases hx
      | some n =>
        rw [hn] at h1 h2
        have h1 : (if q < n then (some l, some q) else zbest S v s l).1 = some a := h1
        have h2 : (if q < n then (some l, some q) else zbest S v s l).2 = some m := h2
        by_cases hq : q < n
        · rw [if_pos hq] at h1 h2
          have h1 : some l = some a := h1
          have h2 : some q = some m := h2
          cases h1
          cases h2
          obtain ⟨x, hx, hl⟩ := zbest_ub (S := S) (v := v) (s := s) hb k hk
          rw [hn] at hx
          cases hx
          omega
        · rw [if_neg hq] at h1 h2
          exact zbest_first h1 h2 b hb k hk
theorem znorm_0 {S v : Nat → Option Nat} (hv : zfix S v) {L : List Nat} (h6 : ∀ x ∈ L, x < 6) (h : znorm v L = some 0) : L = [] := by
  cases L with
  | nil => rfl
  | cons x t =>
    obtain ⟨p, q, hp, hq, he⟩ := zoa_some (show zoa (v x) (znorm v t) = some 0 from h)
    have hm := hv x (h6 x List.mem_cons_self)
    rw [hp] at hm
    obtain ⟨a, ha, hb⟩ := zmin_ex hm.symm
    obtain ⟨r, k, hr, hk, hpk⟩ := zby_some hb
    omega

theorem clX8_least_99 : Cond.constantLong RX8 99 (-9) ∈ wsX8_least := by decide +kernel
theorem inX8_least_X8 : ∀ w ∈ u_ws RX8 TX8 14, w ∈ wsX8_least := by decide +kernel
theorem lkX8_least_72 : Cond.fieldLink RX8 72 RX8 "stacked" "I" ∈ wsX8_least := by decide +kernel
theorem lkX8_least_16 : Cond.fieldLink RX8 16 RX8 "stack" "[I" ∈ wsX8_least := by decide +kernel
theorem lkX8_least_19 : Cond.fieldLink RX8 19 RX8 "norms" "[I" ∈ wsX8_least := by decide +kernel
theorem clX8_least_44 : Cond.constantLong RX8 44 (10) ∈ wsX8_least := by decide +kernel
theorem clX8_least_97 : Cond.constantLong RX8 97 (-9223372036854775808) ∈ wsX8_least := by decide +kernel
set_option maxHeartbeats 4000000 in
set_option maxRecDepth 100000 in
theorem kkX8_least (l : Launch) (G : zz_C) (hJ : zz_J G) (M : zz_M) (S : Nat → Option Nat) (hs : List (Nat → Option Nat)) (x : Int32) (hI : zJ M S hs) : Met l yX8_least wsX8_least ({ frames := 4, cells := 0, slots := 0, locals := 96 } : Room) (zz_P G M [.ref (G.2.2 100), .int x]) (zz_Ql G (fun r M1 => zhi M M1 ∧ zJ M1 S hs ∧ r = sp_least S x)) 0 0 (zz_A G) := by
  refine zz_start hJ (by decide) rfl (Nat.le_of_ble_eq_true rfl) ?_
  intro p e s m below meth c E hr hlk
  have hts := E.2.2.2.2.1
  show zz_Z p l e (headSpec wsX8_least ({ frames := 4, cells := 0, slots := 0, locals := 96 } : Room)).room s m ([.ref (G.2.2 100), .int x] : List Value).toArray below meth c 0 0 (MQ below (zz_Ql G (fun r M1 => zhi M M1 ∧ zJ M1 S hs ∧ r = sp_least S x)) ([.ref (G.2.2 100), .int x] : List Value).toArray s 0 0 (zz_A G)) 7 G (zz_A G) M 0 [(0, .ref (G.2.2 100)), (1, .int x)] []
  refine zz_iload_n (pc := 0) E dX8_least_0 rfl ?_
  refine zz_bipush (pc := 1) (v := nI 9) E dX8_least_1 (by decide) ?_
  refine zz_ciS (pc := 3) E (kkX8_isRow l G hJ _ _ _ (by decide)) (va_cwS 2 hts gX8_least_X8_isRow rfl rfl rfl (by decide +kernel) ⟨Nat.le_of_ble_eq_true rfl, Nat.le_of_ble_eq_true rfl⟩) rfl rfl (Nat.le_of_ble_eq_true rfl) dX8_least_3 (fun r3 M3 q3 => ?_)
  obtain ⟨rfl, rfl⟩ := q3
  refine zb_if_ne (pc := 6) (tgt := 13) E dX8_least_6 (by decide) (fun h6 => ?_) (fun h6 => ?_)
  · obtain ⟨a, hxa, hza, han, ha9, ha31⟩ := zs_row_of h6 (by decide)
    have hsp : sp_least S x = match znorm (zit S 36) (zr a) with | none => -9 | some n => if n ≤ 12 then lN (zlw S (zit S 36) n (zr a) 0) else -9 := by unfold sp_least; rw [if_pos h6, ← han]; rfl
    have hbd := zit_bd hI.1 36
    have hal := zok_len hza
    have hlt : ∀ n, znorm (zit S 36) (zr a) = some n → n < 2 ^ 31 := fun n hn => by
      have h1 := znorm_le hbd (zr_lt hza) hn
      rw [zr_len] at h1
      omega
    refine zz_aload_n (pc := 13) E dX8_least_13 rfl ?_
    refine zz_cvV (pc := 14) E 100 (kkX8_findNorms l G hJ _  S hI.1 hI.2.2.1) (cwV 0 hts gX8_least_X8_findNorms rfl rfl rfl (by decide +kernel) ⟨Nat.le_of_ble_eq_true rfl, Nat.le_of_ble_eq_true rfl⟩) (by decide) rfl rfl rfl rfl (Nat.le_of_ble_eq_true rfl) dX8_least_14 (fun M14 q14 => ?_)
    obtain ⟨f14, w14⟩ := q14
    refine zz_aload_n (pc := 17) E dX8_least_17 rfl ?_
    refine zz_iload_n (pc := 18) E dX8_least_18 rfl ?_
    refine zz_eqi (y := nI a) hxa ?_
    refine zz_ciV (pc := 19) E 100 (kkX8_normOf l G hJ _  (zit S 36) a 9 364 w14 hbd (by decide) hza (by decide)) (cwV 1 hts gX8_least_X8_normOf rfl rfl rfl (by decide +kernel) ⟨Nat.le_of_ble_eq_true rfl, Nat.le_of_ble_eq_true rfl⟩) (by decide) rfl rfl rfl rfl (Nat.le_of_ble_eq_true rfl) dX8_least_19 (fun r19 M19 q19 => ?_)
    obtain ⟨rfl, rfl⟩ := q19
    refine zz_istore_n (pc := 22) (lv' := [(0, _), (1, _), (2, _)]) E dX8_least_22 (by decide) rfl ?_
    refine zz_iload_n (pc := 23) E dX8_least_23 rfl ?_
    refine zz_bipush (pc := 24) (v := -9) E dX8_least_24 (by decide) ?_
    refine zz_icmp_eq (pc := 26) (tgt := 35) E dX8_least_26 (by decide) (fun h26 => ?_) (fun h26 => ?_)
    · rw [zo_m9 hlt] at h26
      rw [h26] at hsp
      refine zz_ldc2 (pc := 35) (v := (-9)) E clX8_least_99 dX8_least_35 ?_
      exact zz_lret (pc := 38) E hr hlk dX8_least_38 ⟨zfr_hi f14 (by decide), zJ_mf hI (zmf_fr f14 (by decide)) (by decide) (by decide), by rw [hsp]⟩
    · obtain ⟨n, hn⟩ : ∃ n, znorm (zit S 36) (zr a) = some n := by
        cases hv2 : znorm (zit S 36) (zr a) with
        | none => exact absurd (by rw [hv2]; rfl) h26
        | some n => exact ⟨n, rfl⟩
      have hn31 := hlt n hn
      rw [hn] at hsp
      refine zz_iload_n (pc := 29) E dX8_least_29 rfl ?_
      refine zz_eqi (y := nI n) (by rw [hn]; rfl) ?_
      refine zz_bipush (pc := 30) (v := nI 12) E dX8_least_30 (by decide) ?_
      refine zn_icmp_le (pc := 32) (tgt := 39) E dX8_least_32 (by decide) (by omega) (by omega) (fun h32 => ?_) (fun h32 => ?_)
      · have hsp : sp_least S x = lN (zlw S (zit S 36) n (zr a) 0) := by rw [hsp]; exact if_pos h32
        have hfix := zit_fix hI.1
        refine zz_lconst (pc := 39) (v := lN 0) E dX8_least_39 rfl ?_
        refine zz_lstore_n (pc := 40) (lv' := [(0, _), (1, _), (2, _), (3, _)]) E dX8_least_40 (by decide) rfl ?_
        refine zz_aload_n (pc := 41) E dX8_least_41 rfl ?_
        refine zz_iconst (pc := 42) (v := nI 0) E dX8_least_42 (by decide) ?_
        refine zz_pfj (pc := 43) E 100 1 (by decide) rfl rfl inX8_least_X8 tyX8 tyX8_ok nmX8 3 (by decide) lkX8_least_72 (fun _ h => h) rfl rfl (Nat.le_of_ble_eq_true rfl) rfl dX8_least_43 ?_
        refine zz_aload_n (pc := 46) E dX8_least_46 rfl ?_
        refine zz_iload_n (pc := 47) E dX8_least_47 rfl ?_
        refine zz_eqi (y := nI a) hxa ?_
        refine zz_cvV (pc := 48) E 100 (kkX8_stacks l G hJ _  a 9 [] hza (by decide) ⟨by rw [zz_up_same]; rfl, by decide, trivial, fun _ h => by cases h⟩ (by rw [List.length_nil]; omega)) (cwV 1 hts gX8_least_X8_stacks rfl rfl rfl (by decide +kernel) ⟨Nat.le_of_ble_eq_true rfl, Nat.le_of_ble_eq_true rfl⟩) (by decide) rfl rfl rfl rfl (Nat.le_of_ble_eq_true rfl) dX8_least_48 (fun M48 q48 => ?_)
        obtain ⟨f48, w48⟩ := q48
        have hf0 : zmf [103, 104] M M48 := zmf_ct (zmf_ct (zmf_fr f14 (by decide)) (zmf_fld (zmf_rf [104] _) (by decide)) (fun _ h => h) (fun _ h => h)) f48 (by simp) (by simp)
        have hv0 : zn8 M48 (zit S 36) := fun s hs => by rw [f48.1 104 (by decide), zz_up_ne _ _ (by decide)]; exact w14 s hs
        have key : ∀ (j w : Nat) (M2 : zz_M) (L : List Nat), j ≤ n → zmf [103, 104] M M2 → zn8 M2 (zit S 36) → zstk M2 L → L.length ≤ 9 + 2 * (n - j) → znorm (zit S 36) L = some j → zlw S (zit S 36) n (zr a) 0 = zlw S (zit S 36) j L w → zz_Z p l e (headSpec wsX8_least ({ frames := 4, cells := 0, slots := 0, locals := 96 } : Room)).room s m ([.ref (G.2.2 100), .int x] : List Value).toArray below meth c 0 0 (MQ below (zz_Ql G (fun r M1 => zhi M M1 ∧ zJ M1 S hs ∧ r = sp_least S x)) ([.ref (G.2.2 100), .int x] : List Value).toArray s 0 0 (zz_A G)) 7 G (zz_A G) M2 51 [(0, .ref (G.2.2 100)), (3, .long (lN w))] [] := by
          intro j
          induction j with
          | zero =>
            intro w M2 L hj hf hv hw hl hnn he
            have hnil := znorm_0 hfix hw.2.2.2 hnn
            subst hnil
            refine zz_aload_n (pc := 51) E dX8_least_51 rfl ?_
            refine zz_gf (pc := 52) E 100 (by decide) rfl rfl inX8_least_X8 3 (by decide) lkX8_least_72 (fun _ h => h) rfl dX8_least_52 ?_
            refine zz_eqi (y := nI 0) hw.1 ?_
            refine zn_if_le (pc := 55) (tgt := 156) E dX8_least_55 (by decide) (by omega) (fun h55 => ?_) (fun h55 => ?_)
            · refine zz_lload_n (pc := 156) E dX8_least_156 rfl ?_
              exact zz_lret (pc := 157) E hr hlk dX8_least_157 ⟨zmf_hi hf (by decide), zJ_mf hI hf (by decide) (by decide), by rw [hsp, he]; rfl⟩
            · exact absurd h55 (by omega)
          | succ j ih =>
            intro w M2 L hj hf hv hw hl hnn he
            have hS2 := ztl_mf hI.2.2.1 hf (by decide)
            have h6 := hw.2.2.2
            obtain ⟨y, t, b, L1, rfl, hb, hb3, hst, hn1⟩ := zlw_step hI.1 hfix h6 hnn
            have hy6 := h6 y List.mem_cons_self
            have hok := zstep_ok hI.1 hb3 h6 hst
            rw [zlw, hb] at he
            have he : _ = zlw S (zit S 36) j ((zstep S (y :: t) b).getD (y :: t)) (w * 10 + b + 1) := he
            rw [hst] at he
            obtain ⟨k0, q0, hk0, hq0, hkq⟩ := zoa_some (show zoa (zit S 36 y) (znorm (zit S 36) t) = some (j + 1) from hnn)
            have hmin : (zbest S (zit S 36) y 3).2 = some k0 := by have h9 := hfix y hy6; rw [hk0] at h9; exact h9.symm
            have hbyb : zby S (zit S 36) y (some b) = some k0 := by have h9 := zbest_by S (zit S 36) y 3; rw [hb, hmin] at h9; exact h9
            have hk364 := hbd y hy6 k0 hk0
            have hlc : (y :: t).length = t.length + 1 := rfl
            refine zz_aload_n (pc := 51) E dX8_least_51 rfl ?_
            refine zz_gf (pc := 52) E 100 (by decide) rfl rfl inX8_least_X8 3 (by decide) lkX8_least_72 (fun _ h => h) rfl dX8_least_52 ?_
            refine zz_eqi (y := nI (t.length + 1)) hw.1 ?_
            refine zn_if_le (pc := 55) (tgt := 156) E dX8_least_55 (by decide) (by omega) (fun h55 => ?_) (fun h55 => ?_)
            · exact absurd h55 (by omega)
            · refine zz_aload_n (pc := 58) E dX8_least_58 rfl ?_
              refine zz_gf (pc := 59) E 100 (by decide) rfl rfl inX8_least_X8 4 (by decide) lkX8_least_16 (fun _ h => h) rfl dX8_least_59 ?_
              refine zz_aload_n (pc := 62) E dX8_least_62 rfl ?_
              refine zz_gf (pc := 63) E 100 (by decide) rfl rfl inX8_least_X8 3 (by decide) lkX8_least_72 (fun _ h => h) rfl dX8_least_63 ?_
              refine zz_eqi (y := nI (t.length + 1)) hw.1 ?_
              refine zz_iconst (pc := 66) (v := nI 1) E dX8_least_66 (by decide) ?_
              refine zn_isub (pc := 67) E dX8_least_67 (by omega) ?_
              refine zz_iald (pc := 68) E 103 (t.length) (n := 64) (by decide) rfl rfl (by omega) (by decide) dX8_least_68 ?_
              refine zz_eqi (y := nI y) hw.2.2.1.1 ?_
              refine zz_istore (pc := 69) (lv' := [(0, _), (3, _), (5, _)]) E dX8_least_69 (by decide) rfl ?_
              refine zz_iconst (pc := 71) (v := nI 0) E dX8_least_71 (by decide) ?_
              refine zz_istore (pc := 72) (lv' := [(0, _), (3, _), (5, _), (6, _)]) E dX8_least_72 (by decide) rfl ?_
              have key2 : ∀ (j2 i2 : Nat), i2 + j2 = b → zz_Z p l e (headSpec wsX8_least ({ frames := 4, cells := 0, slots := 0, locals := 96 } : Room)).room s m ([.ref (G.2.2 100), .int x] : List Value).toArray below meth c 0 0 (MQ below (zz_Ql G (fun r M1 => zhi M M1 ∧ zJ M1 S hs ∧ r = sp_least S x)) ([.ref (G.2.2 100), .int x] : List Value).toArray s 0 0 (zz_A G)) 7 G (zz_A G) M2 74 [(0, .ref (G.2.2 100)), (3, .long (lN w)), (5, .int (nI y)), (6, .int (nI i2))] [] := by
                intro j2
                induction j2 with
                | zero =>
                  intro i2 hi2
                  have hib : i2 = b := by omega
                  subst hib
                  obtain ⟨r, q, hr, hq, hkq2⟩ := zby_some hbyb
                  have hzr := hI.1.1 _ (by omega) r hr
                  have hr1 := zV_lt hI.1 (by omega) hr
                  have h101 : M2 101 (3 * y + i2) = nI r := by rw [hS2 _ (by omega), hr]; rfl
                  refine zz_aload_n (pc := 74) E dX8_least_74 rfl ?_
                  refine zz_iload (pc := 75) E dX8_least_75 rfl ?_
                  refine zz_iload (pc := 77) E dX8_least_77 rfl ?_
                  refine zz_ciV (pc := 79) E 100 (kkX8_ruleOf l G hJ _ _ _ (by omega) (by omega)) (cwV 2 hts gX8_least_X8_ruleOf rfl rfl rfl (by decide +kernel) ⟨Nat.le_of_ble_eq_true rfl, Nat.le_of_ble_eq_true rfl⟩) (by decide) rfl rfl rfl rfl (Nat.le_of_ble_eq_true rfl) dX8_least_79 (fun r79 M79 q79 => ?_)
                  obtain ⟨rfl, rfl⟩ := q79
                  refine zz_eqi (y := nI r) h101 ?_
                  refine zz_bipush (pc := 82) (v := -9) E dX8_least_82 (by decide) ?_
                  refine zz_icmp_eq (pc := 84) (tgt := 128) E dX8_least_84 (by decide) (fun h84 => ?_) (fun h84 => ?_)
                  · exact absurd ((zo_m9 (o := some r) (fun x hx => by cases hx; omega)).mp h84) (by simp)
                  · refine zz_aload_n (pc := 87) E dX8_least_87 rfl ?_
                    refine zz_aload_n (pc := 88) E dX8_least_88 rfl ?_
                    refine zz_iload (pc := 89) E dX8_least_89 rfl ?_
                    refine zz_iload (pc := 91) E dX8_least_91 rfl ?_
                    refine zz_ciV (pc := 93) E 100 (kkX8_ruleOf l G hJ _ _ _ (by omega) (by omega)) (cwV 2 hts gX8_least_X8_ruleOf rfl rfl rfl (by decide +kernel) ⟨Nat.le_of_ble_eq_true rfl, Nat.le_of_ble_eq_true rfl⟩) (by decide) rfl rfl rfl rfl (Nat.le_of_ble_eq_true rfl) dX8_least_93 (fun r93 M93 q93 => ?_)
                    obtain ⟨rfl, rfl⟩ := q93
                    refine zz_eqi (y := nI r) h101 ?_
                    refine zz_ciV (pc := 96) E 100 (kkX8_normOf l G hJ _  (zit S 36) r 3 364 hv hbd (by decide) hzr (by decide)) (cwV 1 hts gX8_least_X8_normOf rfl rfl rfl (by decide +kernel) ⟨Nat.le_of_ble_eq_true rfl, Nat.le_of_ble_eq_true rfl⟩) (by decide) rfl rfl rfl rfl (Nat.le_of_ble_eq_true rfl) dX8_least_96 (fun r96 M96 q96 => ?_)
                    obtain ⟨rfl, rfl⟩ := q96
                    refine zz_eqi (y := nI q) (by rw [hq]; rfl) ?_
                    refine zz_bipush (pc := 99) (v := -9) E dX8_least_99 (by decide) ?_
                    refine zz_icmp_eq (pc := 101) (tgt := 128) E dX8_least_101 (by decide) (fun h101 => ?_) (fun h101 => ?_)
                    · exact absurd ((zo_m9 (o := some q) (fun x hx => by cases hx; omega)).mp h101) (by simp)
                    · refine zz_aload_n (pc := 104) E dX8_least_104 rfl ?_
                      refine zz_aload_n (pc := 105) E dX8_least_105 rfl ?_
                      refine zz_iload (pc := 106) E dX8_least_106 rfl ?_
                      refine zz_iload (pc := 108) E dX8_least_108 rfl ?_
                      refine zz_ciV (pc := 110) E 100 (kkX8_ruleOf l G hJ _ _ _ (by omega) (by omega)) (cwV 2 hts gX8_least_X8_ruleOf rfl rfl rfl (by decide +kernel) ⟨Nat.le_of_ble_eq_true rfl, Nat.le_of_ble_eq_true rfl⟩) (by decide) rfl rfl rfl rfl (Nat.le_of_ble_eq_true rfl) dX8_least_110 (fun r110 M110 q110 => ?_)
                      obtain ⟨rfl, rfl⟩ := q110
                      refine zz_eqi (y := nI r) ‹M2 101 (3 * y + i2) = nI r› ?_
                      refine zz_ciV (pc := 113) E 100 (kkX8_normOf l G hJ _  (zit S 36) r 3 364 hv hbd (by decide) hzr (by decide)) (cwV 1 hts gX8_least_X8_normOf rfl rfl rfl (by decide +kernel) ⟨Nat.le_of_ble_eq_true rfl, Nat.le_of_ble_eq_true rfl⟩) (by decide) rfl rfl rfl rfl (Nat.le_of_ble_eq_true rfl) dX8_least_113 (fun r113 M113 q113 => ?_)
                      obtain ⟨rfl, rfl⟩ := q113
                      refine zz_eqi (y := nI q) (by rw [hq]; rfl) ?_
                      refine zz_iconst (pc := 116) (v := nI 1) E dX8_least_116 (by decide) ?_
                      refine zn_iadd (pc := 117) E dX8_least_117 ?_
                      refine zz_aload_n (pc := 118) E dX8_least_118 rfl ?_
                      refine zz_gf (pc := 119) E 100 (by decide) rfl rfl inX8_least_X8 5 (by decide) lkX8_least_19 (fun _ h => h) rfl dX8_least_119 ?_
                      refine zz_iload (pc := 122) E dX8_least_122 rfl ?_
                      refine zz_iald (pc := 124) E 104 (y) (n := 6) (by decide) rfl rfl hy6 (by decide) dX8_least_124 ?_
                      refine zz_eqi (y := nI k0) (by rw [hv y hy6, hk0]; rfl) ?_
                      refine zn_icmp_eq (pc := 125) (tgt := 134) E dX8_least_125 (by decide) (by omega) (by omega) (fun h125 => ?_) (fun h125 => ?_)
                      · refine zz_ldc2 (pc := 134) (v := lN 10) E clX8_least_44 dX8_least_134 ?_
                        refine zz_lload_n (pc := 137) E dX8_least_137 rfl ?_
                        refine zn_lmul (pc := 138) E dX8_least_138 ?_
                        refine zz_iload (pc := 139) E dX8_least_139 rfl ?_
                        refine zn_i2l (pc := 141) E dX8_least_141 (by omega) ?_
                        refine zn_ladd (pc := 142) E dX8_least_142 ?_
                        refine zz_lconst (pc := 143) (v := lN 1) E dX8_least_143 rfl ?_
                        refine zn_ladd (pc := 144) E dX8_least_144 ?_
                        refine zz_lstore_n (pc := 145) (lv' := [(0, _), (3, _), (5, _), (6, _)]) E dX8_least_145 (by decide) rfl ?_
                        refine zz_aload_n (pc := 146) E dX8_least_146 rfl ?_
                        refine zz_iload (pc := 147) E dX8_least_147 rfl ?_
                        refine zz_ciV (pc := 149) E 100 (kkX8_reads l G hJ _  S (y :: t) i2 hI.1 hS2 hw hb3 (by omega)) (cwV 1 hts gX8_least_X8_reads rfl rfl rfl (by decide +kernel) ⟨Nat.le_of_ble_eq_true rfl, Nat.le_of_ble_eq_true rfl⟩) (by decide) rfl rfl rfl rfl (Nat.le_of_ble_eq_true rfl) dX8_least_149 (fun r149 M149 q149 => ?_)
                        obtain ⟨f149, rfl, w149⟩ := q149
                        refine zz_pop (pc := 152) E dX8_least_152 rfl ?_
                        refine zz_goto (pc := 153) (tgt := 51) E dX8_least_153 (by decide) ?_
                        rw [hst] at w149
                        exact zz_to (ih (w * 10 + i2 + 1) M149 L1 (by omega) (zmf_ct hf f149 (fun _ h => h) (by simp)) (fun s hs => by rw [f149.1 104 (by decide)]; exact hv s hs) w149 (by omega) hn1 he) ⟨rfl, by rw [Nat.mul_comm w 10]; rfl, trivial⟩
                      · exact absurd hkq2.symm h125
                | succ j2 ih2 =>
                  intro i2 hi2
                  have hno := fun k hk => zbest_first hb hmin i2 (by omega) k hk
                  have h101 : M2 101 (3 * y + i2) = zo (S (3 * y + i2)) := hS2 _ (by omega)
                  cases hr : S (3 * y + i2) with
                  | none =>
                    have h101 : M2 101 (3 * y + i2) = -9 := by rw [h101, hr]; rfl
                    refine zz_aload_n (pc := 74) E dX8_least_74 rfl ?_
                    refine zz_iload (pc := 75) E dX8_least_75 rfl ?_
                    refine zz_iload (pc := 77) E dX8_least_77 rfl ?_
                    refine zz_ciV (pc := 79) E 100 (kkX8_ruleOf l G hJ _ _ _ (by omega) (by omega)) (cwV 2 hts gX8_least_X8_ruleOf rfl rfl rfl (by decide +kernel) ⟨Nat.le_of_ble_eq_true rfl, Nat.le_of_ble_eq_true rfl⟩) (by decide) rfl rfl rfl rfl (Nat.le_of_ble_eq_true rfl) dX8_least_79 (fun r79 M79 q79 => ?_)
                    obtain ⟨rfl, rfl⟩ := q79
                    refine zz_eqi (y := -9) h101 ?_
                    refine zz_bipush (pc := 82) (v := -9) E dX8_least_82 (by decide) ?_
                    refine zz_icmp_eq (pc := 84) (tgt := 128) E dX8_least_84 (by decide) (fun h84 => ?_) (fun h84 => ?_)
                    · refine zn_inc (pc := 128) (lv' := [(0, _), (3, _), (5, _), (6, _)]) E dX8_least_128 rfl (by decide) rfl ?_
                      refine zz_goto (pc := 131) (tgt := 74) E dX8_least_131 (by decide) ?_
                      exact zz_to (ih2 (i2 + 1) (by omega)) ⟨rfl, rfl, rfl, rfl, trivial⟩
                    · exact absurd rfl h84
                  | some r =>
                    have hzr := hI.1.1 _ (by omega) r hr
                    have hr1 := zV_lt hI.1 (by omega) hr
                    have h101 : M2 101 (3 * y + i2) = nI r := by rw [h101, hr]; rfl
                    cases hq : znorm (zit S 36) (zr r) with
                    | none =>
                      refine zz_aload_n (pc := 74) E dX8_least_74 rfl ?_
                      refine zz_iload (pc := 75) E dX8_least_75 rfl ?_
                      refine zz_iload (pc := 77) E dX8_least_77 rfl ?_
                      refine zz_ciV (pc := 79) E 100 (kkX8_ruleOf l G hJ _ _ _ (by omega) (by omega)) (cwV 2 hts gX8_least_X8_ruleOf rfl rfl rfl (by decide +kernel) ⟨Nat.le_of_ble_eq_true rfl, Nat.le_of_ble_eq_true rfl⟩) (by decide) rfl rfl rfl rfl (Nat.le_of_ble_eq_true rfl) dX8_least_79 (fun r79 M79 q79 => ?_)
                      obtain ⟨rfl, rfl⟩ := q79
                      refine zz_eqi (y := nI r) h101 ?_
                      refine zz_bipush (pc := 82) (v := -9) E dX8_least_82 (by decide) ?_
                      refine zz_icmp_eq (pc := 84) (tgt := 128) E dX8_least_84 (by decide) (fun h84 => ?_) (fun h84 => ?_)
                      · exact absurd ((zo_m9 (o := some r) (fun x hx => by cases hx; omega)).mp h84) (by simp)
                      · refine zz_aload_n (pc := 87) E dX8_least_87 rfl ?_
                        refine zz_aload_n (pc := 88) E dX8_least_88 rfl ?_
                        refine zz_iload (pc := 89) E dX8_least_89 rfl ?_
                        refine zz_iload (pc := 91) E dX8_least_91 rfl ?_
                        refine zz_ciV (pc := 93) E 100 (kkX8_ruleOf l G hJ _ _ _ (by omega) (by omega)) (cwV 2 hts gX8_least_X8_ruleOf rfl rfl rfl (by decide +kernel) ⟨Nat.le_of_ble_eq_true rfl, Nat.le_of_ble_eq_true rfl⟩) (by decide) rfl rfl rfl rfl (Nat.le_of_ble_eq_true rfl) dX8_least_93 (fun r93 M93 q93 => ?_)
                        obtain ⟨rfl, rfl⟩ := q93
                        refine zz_eqi (y := nI r) h101 ?_
                        refine zz_ciV (pc := 96) E 100 (kkX8_normOf l G hJ _  (zit S 36) r 3 364 hv hbd (by decide) hzr (by decide)) (cwV 1 hts gX8_least_X8_normOf rfl rfl rfl (by decide +kernel) ⟨Nat.le_of_ble_eq_true rfl, Nat.le_of_ble_eq_true rfl⟩) (by decide) rfl rfl rfl rfl (Nat.le_of_ble_eq_true rfl) dX8_least_96 (fun r96 M96 q96 => ?_)
                        obtain ⟨rfl, rfl⟩ := q96
                        refine zz_eqi (y := -9) (by rw [hq]; rfl) ?_
                        refine zz_bipush (pc := 99) (v := -9) E dX8_least_99 (by decide) ?_
                        refine zz_icmp_eq (pc := 101) (tgt := 128) E dX8_least_101 (by decide) (fun h101 => ?_) (fun h101 => ?_)
                        · refine zn_inc (pc := 128) (lv' := [(0, _), (3, _), (5, _), (6, _)]) E dX8_least_128 rfl (by decide) rfl ?_
                          refine zz_goto (pc := 131) (tgt := 74) E dX8_least_131 (by decide) ?_
                          exact zz_to (ih2 (i2 + 1) (by omega)) ⟨rfl, rfl, rfl, rfl, trivial⟩
                        · exact absurd rfl h101
                    | some q =>
                      have hno := hno _ (zby_of hr hq)
                      have hq3 := znorm_le hbd (zr_lt hzr) hq
                      have hrl := zok_len hzr
                      rw [zr_len] at hq3
                      refine zz_aload_n (pc := 74) E dX8_least_74 rfl ?_
                      refine zz_iload (pc := 75) E dX8_least_75 rfl ?_
                      refine zz_iload (pc := 77) E dX8_least_77 rfl ?_
                      refine zz_ciV (pc := 79) E 100 (kkX8_ruleOf l G hJ _ _ _ (by omega) (by omega)) (cwV 2 hts gX8_least_X8_ruleOf rfl rfl rfl (by decide +kernel) ⟨Nat.le_of_ble_eq_true rfl, Nat.le_of_ble_eq_true rfl⟩) (by decide) rfl rfl rfl rfl (Nat.le_of_ble_eq_true rfl) dX8_least_79 (fun r79 M79 q79 => ?_)
                      obtain ⟨rfl, rfl⟩ := q79
                      refine zz_eqi (y := nI r) h101 ?_
                      refine zz_bipush (pc := 82) (v := -9) E dX8_least_82 (by decide) ?_
                      refine zz_icmp_eq (pc := 84) (tgt := 128) E dX8_least_84 (by decide) (fun h84 => ?_) (fun h84 => ?_)
                      · exact absurd ((zo_m9 (o := some r) (fun x hx => by cases hx; omega)).mp h84) (by simp)
                      · refine zz_aload_n (pc := 87) E dX8_least_87 rfl ?_
                        refine zz_aload_n (pc := 88) E dX8_least_88 rfl ?_
                        refine zz_iload (pc := 89) E dX8_least_89 rfl ?_
                        refine zz_iload (pc := 91) E dX8_least_91 rfl ?_
                        refine zz_ciV (pc := 93) E 100 (kkX8_ruleOf l G hJ _ _ _ (by omega) (by omega)) (cwV 2 hts gX8_least_X8_ruleOf rfl rfl rfl (by decide +kernel) ⟨Nat.le_of_ble_eq_true rfl, Nat.le_of_ble_eq_true rfl⟩) (by decide) rfl rfl rfl rfl (Nat.le_of_ble_eq_true rfl) dX8_least_93 (fun r93 M93 q93 => ?_)
                        obtain ⟨rfl, rfl⟩ := q93
                        refine zz_eqi (y := nI r) h101 ?_
                        refine zz_ciV (pc := 96) E 100 (kkX8_normOf l G hJ _  (zit S 36) r 3 364 hv hbd (by decide) hzr (by decide)) (cwV 1 hts gX8_least_X8_normOf rfl rfl rfl (by decide +kernel) ⟨Nat.le_of_ble_eq_true rfl, Nat.le_of_ble_eq_true rfl⟩) (by decide) rfl rfl rfl rfl (Nat.le_of_ble_eq_true rfl) dX8_least_96 (fun r96 M96 q96 => ?_)
                        obtain ⟨rfl, rfl⟩ := q96
                        refine zz_eqi (y := nI q) (by rw [hq]; rfl) ?_
                        refine zz_bipush (pc := 99) (v := -9) E dX8_least_99 (by decide) ?_
                        refine zz_icmp_eq (pc := 101) (tgt := 128) E dX8_least_101 (by decide) (fun h101 => ?_) (fun h101 => ?_)
                        · exact absurd ((zo_m9 (o := some q) (fun x hx => by cases hx; omega)).mp h101) (by simp)
                        · refine zz_aload_n (pc := 104) E dX8_least_104 rfl ?_
                          refine zz_aload_n (pc := 105) E dX8_least_105 rfl ?_
                          refine zz_iload (pc := 106) E dX8_least_106 rfl ?_
                          refine zz_iload (pc := 108) E dX8_least_108 rfl ?_
                          refine zz_ciV (pc := 110) E 100 (kkX8_ruleOf l G hJ _ _ _ (by omega) (by omega)) (cwV 2 hts gX8_least_X8_ruleOf rfl rfl rfl (by decide +kernel) ⟨Nat.le_of_ble_eq_true rfl, Nat.le_of_ble_eq_true rfl⟩) (by decide) rfl rfl rfl rfl (Nat.le_of_ble_eq_true rfl) dX8_least_110 (fun r110 M110 q110 => ?_)
                          obtain ⟨rfl, rfl⟩ := q110
                          refine zz_eqi (y := nI r) ‹M2 101 (3 * y + i2) = nI r› ?_
                          refine zz_ciV (pc := 113) E 100 (kkX8_normOf l G hJ _  (zit S 36) r 3 364 hv hbd (by decide) hzr (by decide)) (cwV 1 hts gX8_least_X8_normOf rfl rfl rfl (by decide +kernel) ⟨Nat.le_of_ble_eq_true rfl, Nat.le_of_ble_eq_true rfl⟩) (by decide) rfl rfl rfl rfl (Nat.le_of_ble_eq_true rfl) dX8_least_113 (fun r113 M113 q113 => ?_)
                          obtain ⟨rfl, rfl⟩ := q113
                          refine zz_eqi (y := nI q) (by rw [hq]; rfl) ?_
                          refine zz_iconst (pc := 116) (v := nI 1) E dX8_least_116 (by decide) ?_
                          refine zn_iadd (pc := 117) E dX8_least_117 ?_
                          refine zz_aload_n (pc := 118) E dX8_least_118 rfl ?_
                          refine zz_gf (pc := 119) E 100 (by decide) rfl rfl inX8_least_X8 5 (by decide) lkX8_least_19 (fun _ h => h) rfl dX8_least_119 ?_
                          refine zz_iload (pc := 122) E dX8_least_122 rfl ?_
                          refine zz_iald (pc := 124) E 104 (y) (n := 6) (by decide) rfl rfl hy6 (by decide) dX8_least_124 ?_
                          refine zz_eqi (y := nI k0) (by rw [hv y hy6, hk0]; rfl) ?_
                          refine zn_icmp_eq (pc := 125) (tgt := 134) E dX8_least_125 (by decide) (by omega) (by omega) (fun h125 => ?_) (fun h125 => ?_)
                          · exact absurd h125 (by omega)
                          · refine zn_inc (pc := 128) (lv' := [(0, _), (3, _), (5, _), (6, _)]) E dX8_least_128 rfl (by decide) rfl ?_
                            refine zz_goto (pc := 131) (tgt := 74) E dX8_least_131 (by decide) ?_
                            exact zz_to (ih2 (i2 + 1) (by omega)) ⟨rfl, rfl, rfl, rfl, trivial⟩
              exact zz_to (key2 b 0 (by omega)) ⟨rfl, rfl, rfl, rfl, trivial⟩
        exact zz_to (key n 0 M48 (zr a) (Nat.le_refl _) hf0 hv0 (by rw [List.append_nil] at w48; exact w48) (by rw [zr_len]; omega) hn rfl) ⟨rfl, rfl, trivial⟩
      · have hsp : sp_least S x = -9 := by rw [hsp]; exact if_neg (by omega)
        refine zz_ldc2 (pc := 35) (v := (-9)) E clX8_least_99 dX8_least_35 ?_
        exact zz_lret (pc := 38) E hr hlk dX8_least_38 ⟨zfr_hi f14 (by decide), zJ_mf hI (zmf_fr f14 (by decide)) (by decide) (by decide), by rw [hsp]⟩
  · have hsp : sp_least S x = -9223372036854775808 := by unfold sp_least; rw [if_neg (by rw [h6]; simp)]
    refine zz_ldc2 (pc := 9) (v := (-9223372036854775808)) E clX8_least_97 dX8_least_9 ?_
    exact zz_lret (pc := 12) E hr hlk dX8_least_12 ⟨zhi_rf _, hI, by rw [hsp]⟩
