theorem inX2_find_X2 : ∀ w ∈ u_ws RX2 TX2 1, w ∈ wsX2_find := by decide +kernel
theorem lkX2_find_9 : Cond.fieldLink RX2 9 RX2 "ofSign" "[I" ∈ wsX2_find := by decide +kernel
set_option maxHeartbeats 4000000 in
set_option maxRecDepth 100000 in
theorem kkX2_find (l : Launch) (G : zz_C) (hJ : zz_J G) (M : zz_M) (S : Nat → Option Nat) (hV : zV S) (hS : ztab M 1 S) : Met l yX2_find wsX2_find ({ frames := 5, cells := 0, slots := 0, locals := 116 } : Room) (zz_P G M [.ref (G.2.2 11), .ref (G.2.2 1)]) (zz_Qv G (fun M1 => zfr [12] M M1 ∧ znm M1 (zit S 36))) 0 0 (zz_A G) := by
  refine zz_start hJ (by decide) rfl (Nat.le_of_ble_eq_true rfl) ?_
  intro p e s m below meth c E hr hlk
  have hts := E.2.2.2.2.1
  show zz_Z p l e (headSpec wsX2_find ({ frames := 5, cells := 0, slots := 0, locals := 116 } : Room)).room s m ([.ref (G.2.2 11), .ref (G.2.2 1)] : List Value).toArray below meth c 0 0 (MQ below (zz_Qv G (fun M1 => zfr [12] M M1 ∧ znm M1 (zit S 36))) ([.ref (G.2.2 11), .ref (G.2.2 1)] : List Value).toArray s 0 0 (zz_A G)) 4 G (zz_A G) M 0 [(0, .ref (G.2.2 11)), (1, .ref (G.2.2 1))] []
  refine zz_aload_n (pc := 0) E dX2_find_0 rfl ?_
  refine zz_gf (pc := 1) E 11 (by decide) rfl rfl inX2_find_X2 0 (by decide) lkX2_find_9 (fun _ h => h) rfl dX2_find_1 ?_
  refine zz_bipush (pc := 4) (v := -9) E dX2_find_4 (by decide) ?_
  refine zz_cvS (pc := 6) E (kkJ7_fill_53178 l G hJ _ _ _ _ (by decide) (fun _ => rfl) (by decide)) (va_cwS 2 hts gX2_find_J7_fill_53178 rfl rfl rfl (by decide +kernel) ⟨Nat.le_of_ble_eq_true rfl, Nat.le_of_ble_eq_true rfl⟩) rfl rfl (Nat.le_of_ble_eq_true rfl) dX2_find_6 (fun M6 q6 => ?_)
  obtain ⟨f6, w6⟩ := q6
  refine zz_iconst (pc := 9) (v := nI 0) E dX2_find_9 (by decide) ?_
  refine zz_istore_n (pc := 10) (lv' := [(0, _), (1, _), (2, _)]) E dX2_find_10 (by decide) rfl ?_
  have key : ∀ (j i : Nat) (M2 : zz_M), i + j = 6 → zfr [12] M M2 → znm M2 (zit S (6 * i)) → zz_Z p l e (headSpec wsX2_find ({ frames := 5, cells := 0, slots := 0, locals := 116 } : Room)).room s m ([.ref (G.2.2 11), .ref (G.2.2 1)] : List Value).toArray below meth c 0 0 (MQ below (zz_Qv G (fun M1 => zfr [12] M M1 ∧ znm M1 (zit S 36))) ([.ref (G.2.2 11), .ref (G.2.2 1)] : List Value).toArray s 0 0 (zz_A G)) 4 G (zz_A G) M2 11 [(0, .ref (G.2.2 11)), (1, .ref (G.2.2 1)), (2, .int (nI i))] [] := by
    intro j
    induction j with
    | zero =>
      intro i M2 hi hf hv
      refine zz_iload_n (pc := 11) E dX2_find_11 rfl ?_
      refine zz_bipush (pc := 12) (v := nI 6) E dX2_find_12 (by decide) ?_
      refine zn_icmp_ge (pc := 14) (tgt := 55) E dX2_find_14 (by decide) (by omega) (by omega) (fun h14 => ?_) (fun h14 => ?_)
      · exact zz_vret (pc := 55) E hr hlk dX2_find_55 ⟨hf, by rw [show 6 * i = 36 by omega] at hv; exact hv⟩
      · exact absurd h14 (by omega)
    | succ j ih =>
      intro i M2 hi hf hv
      refine zz_iload_n (pc := 11) E dX2_find_11 rfl ?_
      refine zz_bipush (pc := 12) (v := nI 6) E dX2_find_12 (by decide) ?_
      refine zn_icmp_ge (pc := 14) (tgt := 55) E dX2_find_14 (by decide) (by omega) (by omega) (fun h14 => ?_) (fun h14 => ?_)
      · exact absurd h14 (by omega)
      · refine zz_iconst (pc := 17) (v := nI 0) E dX2_find_17 (by decide) ?_
        refine zz_istore_n (pc := 18) (lv' := [(0, _), (1, _), (2, _), (3, _)]) E dX2_find_18 (by decide) rfl ?_
        have key2 : ∀ (j2 i2 : Nat) (M3 : zz_M), i2 + j2 = 6 → zfr [12] M M3 → znm M3 (zit S (6 * i + i2)) → zz_Z p l e (headSpec wsX2_find ({ frames := 5, cells := 0, slots := 0, locals := 116 } : Room)).room s m ([.ref (G.2.2 11), .ref (G.2.2 1)] : List Value).toArray below meth c 0 0 (MQ below (zz_Qv G (fun M1 => zfr [12] M M1 ∧ znm M1 (zit S 36))) ([.ref (G.2.2 11), .ref (G.2.2 1)] : List Value).toArray s 0 0 (zz_A G)) 4 G (zz_A G) M3 19 [(0, .ref (G.2.2 11)), (1, .ref (G.2.2 1)), (2, .int (nI i)), (3, .int (nI i2))] [] := by
          intro j2
          induction j2 with
          | zero =>
            intro i2 M3 hi2 hf3 hv3
            refine zz_iload_n (pc := 19) E dX2_find_19 rfl ?_
            refine zz_bipush (pc := 20) (v := nI 6) E dX2_find_20 (by decide) ?_
            refine zn_icmp_ge (pc := 22) (tgt := 49) E dX2_find_22 (by decide) (by omega) (by omega) (fun h22 => ?_) (fun h22 => ?_)
            · refine zn_inc (pc := 49) (lv' := [(0, _), (1, _), (2, _), (3, _)]) E dX2_find_49 rfl (by decide) rfl ?_
              refine zz_goto (pc := 52) (tgt := 11) E dX2_find_52 (by decide) ?_
              exact zz_to (ih (i + 1) M3 (by omega) hf3 (by rw [show 6 * (i + 1) = 6 * i + i2 by omega]; exact hv3)) ⟨rfl, rfl, rfl, trivial⟩
            · exact absurd h22 (by omega)
          | succ j2 ih2 =>
            intro i2 M3 hi2 hf3 hv3
            have hS3 : ztab M3 1 S := ztab_fr hS hf3 (by decide) (by decide)
            have hB3 := zit_bd hV (6 * i + i2)
            refine zz_iload_n (pc := 19) E dX2_find_19 rfl ?_
            refine zz_bipush (pc := 20) (v := nI 6) E dX2_find_20 (by decide) ?_
            refine zn_icmp_ge (pc := 22) (tgt := 49) E dX2_find_22 (by decide) (by omega) (by omega) (fun h22 => ?_) (fun h22 => ?_)
            · exact absurd h22 (by omega)
            · refine zz_aload_n (pc := 25) E dX2_find_25 rfl ?_
              refine zz_gf (pc := 26) E 11 (by decide) rfl rfl inX2_find_X2 0 (by decide) lkX2_find_9 (fun _ h => h) rfl dX2_find_26 ?_
              refine zz_iload_n (pc := 29) E dX2_find_29 rfl ?_
              refine zz_aload_n (pc := 30) E dX2_find_30 rfl ?_
              refine zz_aload_n (pc := 31) E dX2_find_31 rfl ?_
              refine zz_iload_n (pc := 32) E dX2_find_32 rfl ?_
              refine zz_aload_n (pc := 33) E dX2_find_33 rfl ?_
              refine zz_aload_n (pc := 34) E dX2_find_34 rfl ?_
              refine zz_iload_n (pc := 35) E dX2_find_35 rfl ?_
              refine zz_ciV (pc := 36) E 11 (kkX2_leastLetter l G hJ _  S _ 364 hV hS3 hv3 hB3 (by decide) i2 (by omega)) (cwV 2 hts gX2_find_X2_leastLetter rfl rfl rfl (by decide +kernel) ⟨Nat.le_of_ble_eq_true rfl, Nat.le_of_ble_eq_true rfl⟩) (by decide) rfl rfl rfl rfl (Nat.le_of_ble_eq_true rfl) dX2_find_36 (fun r36 M36 q36 => ?_)
              obtain ⟨rfl, rfl⟩ := q36
              refine zz_ciV (pc := 39) E 11 (kkX2_byLetter l G hJ _  S _ i2 (zbest S (zit S (6 * i + i2)) i2 3).1 364 hV hS3 hv3 hB3 (by decide) (by omega) (fun a ha => zbest_lt _ _ _ _ _ ha)) (cwV 3 hts gX2_find_X2_byLetter rfl rfl rfl (by decide +kernel) ⟨Nat.le_of_ble_eq_true rfl, Nat.le_of_ble_eq_true rfl⟩) (by decide) rfl rfl rfl rfl (Nat.le_of_ble_eq_true rfl) dX2_find_39 (fun r39 M39 q39 => ?_)
              obtain ⟨rfl, rfl⟩ := q39
              refine zz_iast (pc := 42) E 12 (_) (n := 6) (by decide) (fun _ => rfl) rfl (by omega) (by decide) dX2_find_42 ?_
              refine zn_inc (pc := 43) (lv' := [(0, _), (1, _), (2, _), (3, _)]) E dX2_find_43 rfl (by decide) rfl ?_
              refine zz_goto (pc := 46) (tgt := 19) E dX2_find_46 (by decide) ?_
              exact zz_to (ih2 (i2 + 1) _ (by omega) (zfr_up hf3 (by simp)) (fun t ht => by rw [zz_up_same, show 6 * i + (i2 + 1) = (6 * i + i2) + 1 by omega, zit, show (6 * i + i2) % 6 = i2 by omega]; by_cases e : t = i2; rw [e, upd_same, zvu_same, zbest_by]; rfl; rw [upd_ne _ _ e, zvu_ne _ _ e]; exact hv3 t ht)) ⟨rfl, rfl, rfl, rfl, trivial⟩
        exact zz_to (key2 6 0 M2 (by omega) hf hv) ⟨rfl, rfl, rfl, rfl, trivial⟩
  exact zz_to (key 6 0 M6 (by omega) f6 (fun s hs => w6 s hs)) ⟨rfl, rfl, rfl, trivial⟩
