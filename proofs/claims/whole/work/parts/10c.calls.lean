/-! the reference's calls -/
def zah (M : zz_M) (hs : List (Nat → Option Nat)) : Prop := M 100 0 = nI hs.length ∧ hs.length ≤ 20 ∧ ∀ (j : Nat) (T : Nat → Option Nat), hs[j]? = some T → ∀ i, i < 24 → M 102 (24 * (hs.length - 1 - j) + i) = zo (T i)
def zJ (M : zz_M) (S : Nat → Option Nat) (hs : List (Nat → Option Nat)) : Prop := zV S ∧ (∀ T ∈ hs, zV T) ∧ ztl M S ∧ zah M hs
def zhi (M M1 : zz_M) : Prop := ∀ j, j < 100 → M1 j = M j
theorem zhi_rf (M : zz_M) : zhi M M := fun _ _ => rfl
theorem zhi_tr {M M1 M2 : zz_M} (h1 : zhi M M1) (h2 : zhi M1 M2) : zhi M M2 := fun j hj => by rw [h2 j hj, h1 j hj]
theorem zhi_up {M M1 : zz_M} {k : Nat} {f : Nat → Int32} (h : zhi M M1) (hk : 100 ≤ k) : zhi M (zz_up M1 k f) := fun j hj => by rw [zz_up_ne _ _ (by omega)]; exact h j hj
theorem zfr_hi {ks : List Nat} {M M1 : zz_M} (h : zfr ks M M1) (hk : ∀ j ∈ ks, 100 ≤ j) : zhi M M1 := fun j hj => h j (fun q => by have := hk j q; omega)
theorem zmf_hi {ks : List Nat} {M M1 : zz_M} (h : zmf ks M M1) (hk : ∀ j ∈ ks, 100 ≤ j) : zhi M M1 := zfr_hi h.1 (fun j hj => by rcases List.mem_cons.mp hj with rfl | q; exact Nat.le_refl _; exact hk j q)
theorem zah_mf {ks : List Nat} {M M1 : zz_M} {hs : List (Nat → Option Nat)} (h : zah M hs) (hf : zmf ks M M1) (h1 : 102 ∉ ks) : zah M1 hs := ⟨by rw [hf.2]; exact h.1, h.2.1, fun j T hj i hi => by rw [hf.1 102 (fun q => by rcases List.mem_cons.mp q with q | q; cases q; exact h1 q)]; exact h.2.2 j T hj i hi⟩
theorem zJ_mf {ks : List Nat} {M M1 : zz_M} {S : Nat → Option Nat} {hs : List (Nat → Option Nat)} (h : zJ M S hs) (hf : zmf ks M M1) (h1 : 101 ∉ ks) (h2 : 102 ∉ ks) : zJ M1 S hs := ⟨h.1, h.2.1, ztl_mf h.2.2.1 hf h1, zah_mf h.2.2.2 hf h2⟩
theorem ztl_up {M : zz_M} {S : Nat → Option Nat} {i : Nat} {z : Int32} {o : Option Nat} (h : ztl M S) (hi : i < 24) (hz : zo o = z) : ztl (zz_up M 101 (upd (M 101) i z)) (zvu S i o) := fun j hj => by
  rw [zz_up_same]
  by_cases e : j = i
  · rw [e, upd_same, zvu_same, hz]
  · rw [upd_ne _ _ e, zvu_ne _ _ e]; exact h j hj

theorem inX8_keeps_X8 : ∀ w ∈ u_ws RX8 TX8 14, w ∈ wsX8_keeps := by decide +kernel
theorem lkX8_keeps_50 : Cond.fieldLink RX8 50 RX8 "changes" "I" ∈ wsX8_keeps := by decide +kernel
theorem lkX8_keeps_13 : Cond.fieldLink RX8 13 RX8 "ahead" "[I" ∈ wsX8_keeps := by decide +kernel
theorem lkX8_keeps_7 : Cond.fieldLink RX8 7 RX8 "told" "[I" ∈ wsX8_keeps := by decide +kernel
set_option maxHeartbeats 4000000 in
set_option maxRecDepth 100000 in
theorem kkX8_keeps (l : Launch) (G : zz_C) (hJ : zz_J G) (M : zz_M) (S : Nat → Option Nat) (hs : List (Nat → Option Nat)) (hS : ztl M S) (hp : zah M hs) : Met l yX8_keeps wsX8_keeps ({ frames := 0, cells := 0, slots := 0, locals := 0 } : Room) (zz_P G M [.ref (G.2.2 100)]) (zz_Qv G (fun M1 => zfr [100, 102] M M1 ∧ zah M1 (zkp S hs))) 0 0 (zz_A G) := by
  refine zz_start hJ (by decide) rfl (Nat.le_of_ble_eq_true rfl) ?_
  intro p e s m below meth c E hr hlk
  have hts := E.2.2.2.2.1
  show zz_Z p l e (headSpec wsX8_keeps ({ frames := 0, cells := 0, slots := 0, locals := 0 } : Room)).room s m ([.ref (G.2.2 100)] : List Value).toArray below meth c 0 0 (MQ below (zz_Qv G (fun M1 => zfr [100, 102] M M1 ∧ zah M1 (zkp S hs))) ([.ref (G.2.2 100)] : List Value).toArray s 0 0 (zz_A G)) 2 G (zz_A G) M 0 [(0, .ref (G.2.2 100))] []
  obtain ⟨g1, g2, g3⟩ := id hp
  by_cases h20 : hs.length = 20
  · refine zz_aload_n (pc := 0) E dX8_keeps_0 rfl ?_
    refine zz_gf (pc := 1) E 100 (by decide) rfl rfl inX8_keeps_X8 1 (by decide) lkX8_keeps_50 (fun _ h => h) rfl dX8_keeps_1 ?_
    refine zz_eqi (y := nI hs.length) g1 ?_
    refine zz_bipush (pc := 4) (v := nI 20) E dX8_keeps_4 (by decide) ?_
    refine zn_icmp_ne (pc := 6) (tgt := 49) E dX8_keeps_6 (by decide) (by omega) (by omega) (fun h6 => ?_) (fun h6 => ?_)
    · exact absurd h20 h6
    · refine zz_iconst (pc := 9) (v := nI 0) E dX8_keeps_9 (by decide) ?_
      refine zz_istore_n (pc := 10) (lv' := [(0, _), (1, _)]) E dX8_keeps_10 (by decide) rfl ?_
      have key : ∀ (j i : Nat) (M2 : zz_M), i + j = 456 → zfr [102] M M2 → (∀ q, q < i → M2 102 q = M 102 (q + 24)) → (∀ q, i ≤ q → M2 102 q = M 102 q) → zz_Z p l e (headSpec wsX8_keeps ({ frames := 0, cells := 0, slots := 0, locals := 0 } : Room)).room s m ([.ref (G.2.2 100)] : List Value).toArray below meth c 0 0 (MQ below (zz_Qv G (fun M1 => zfr [100, 102] M M1 ∧ zah M1 (zkp S hs))) ([.ref (G.2.2 100)] : List Value).toArray s 0 0 (zz_A G)) 2 G (zz_A G) M2 11 [(0, .ref (G.2.2 100)), (1, .int (nI i))] [] := by
        intro j
        induction j with
        | zero =>
          intro i M2 hi hf h1 h2
          have hfull : ∀ (j : Nat) (T : Nat → Option Nat), hs[j]? = some T → j < 19 → ∀ i, i < 24 → M2 102 (24 * (19 - 1 - j) + i) = zo (T i) := fun j T hj hj2 i2 hi2 => by
            rw [h1 _ (by omega), show 24 * (19 - 1 - j) + i2 + 24 = 24 * (hs.length - 1 - j) + i2 by omega]
            exact g3 j T hj i2 hi2
          refine zz_iload_n (pc := 11) E dX8_keeps_11 rfl ?_
          refine zz_sipush (pc := 12) (v := nI 456) E dX8_keeps_12 (by decide) ?_
          refine zn_icmp_ge (pc := 15) (tgt := 39) E dX8_keeps_15 (by decide) (by omega) (by omega) (fun h15 => ?_) (fun h15 => ?_)
          · refine zz_aload_n (pc := 39) E dX8_keeps_39 rfl ?_
            refine zz_dup (pc := 40) E dX8_keeps_40 rfl ?_
            refine zz_gf (pc := 41) E 100 (by decide) rfl rfl inX8_keeps_X8 1 (by decide) lkX8_keeps_50 (fun _ h => h) rfl dX8_keeps_41 ?_
            refine zz_eqi (y := nI hs.length) (by rw [hf 100 (by decide)]; exact g1) ?_
            refine zz_iconst (pc := 44) (v := nI 1) E dX8_keeps_44 (by decide) ?_
            refine zn_isub (pc := 45) E dX8_keeps_45 (by omega) ?_
            refine zz_pfj (pc := 46) E 100 0 (by decide) rfl rfl inX8_keeps_X8 tyX8 tyX8_ok nmX8 1 (by decide) lkX8_keeps_50 (fun _ h => h) rfl rfl (Nat.le_of_ble_eq_true rfl) rfl dX8_keeps_46 ?_
            refine zz_iconst (pc := 49) (v := nI 0) E dX8_keeps_49 (by decide) ?_
            refine zz_istore_n (pc := 50) (lv' := [(0, _), (1, _)]) E dX8_keeps_50 (by decide) rfl ?_
            generalize hM3 : zz_up _ 100 _ = M3
            have hf3 : zfr [100, 102] M M3 := by rw [← hM3]; exact zfr_up (zfr_mono hf (by simp)) (by simp)
            have h103 : M3 102 = M2 102 := by rw [← hM3]; exact zz_up_ne _ _ (by decide)
            have hc3 : M3 100 0 = nI 19 := by rw [← hM3, zz_up_same, upd_same, h20]
            clear hM3
            have key2 : ∀ (j2 i2 : Nat) (M4 : zz_M), i2 + j2 = 24 → zfr [100, 102] M M4 → M4 100 0 = nI 19 → (∀ q, q < i2 → M4 102 (24 * 19 + q) = zo (S q)) → (∀ q, q < 456 → M4 102 q = M2 102 q) → zz_Z p l e (headSpec wsX8_keeps ({ frames := 0, cells := 0, slots := 0, locals := 0 } : Room)).room s m ([.ref (G.2.2 100)] : List Value).toArray below meth c 0 0 (MQ below (zz_Qv G (fun M1 => zfr [100, 102] M M1 ∧ zah M1 (zkp S hs))) ([.ref (G.2.2 100)] : List Value).toArray s 0 0 (zz_A G)) 2 G (zz_A G) M4 51 [(0, .ref (G.2.2 100)), (1, .int (nI i2))] [] := by
              intro j2
              induction j2 with
              | zero =>
                intro i2 M4 hi2 hf4 hc4 h4 h5
                refine zz_iload_n (pc := 51) E dX8_keeps_51 rfl ?_
                refine zz_bipush (pc := 52) (v := nI 24) E dX8_keeps_52 (by decide) ?_
                refine zn_icmp_ge (pc := 54) (tgt := 83) E dX8_keeps_54 (by decide) (by omega) (by omega) (fun h54 => ?_) (fun h54 => ?_)
                · refine zz_aload_n (pc := 83) E dX8_keeps_83 rfl ?_
                  refine zz_dup (pc := 84) E dX8_keeps_84 rfl ?_
                  refine zz_gf (pc := 85) E 100 (by decide) rfl rfl inX8_keeps_X8 1 (by decide) lkX8_keeps_50 (fun _ h => h) rfl dX8_keeps_85 ?_
                  refine zz_eqi (y := nI 19) hc4 ?_
                  refine zz_iconst (pc := 88) (v := nI 1) E dX8_keeps_88 (by decide) ?_
                  refine zn_iadd (pc := 89) E dX8_keeps_89 ?_
                  refine zz_pfj (pc := 90) E 100 0 (by decide) rfl rfl inX8_keeps_X8 tyX8 tyX8_ok nmX8 1 (by decide) lkX8_keeps_50 (fun _ h => h) rfl rfl (Nat.le_of_ble_eq_true rfl) rfl dX8_keeps_90 ?_
                  exact zz_vret (pc := 93) E hr hlk dX8_keeps_93 ⟨zfr_up hf4 (by simp), by rw [zz_up_same, upd_same]; unfold zkp; rw [List.length_take, List.length_cons, h20]; rfl, by unfold zkp; rw [List.length_take]; omega, fun j T hj i hi => by unfold zkp at hj ⊢; rw [zz_up_ne _ _ (by decide), List.length_take, List.length_cons, h20, show min 20 (20 + 1) - 1 - j = 19 - j by omega]; rw [List.getElem?_take] at hj; by_cases hj20 : j < 20; rw [if_pos hj20] at hj; cases j with | zero => { rw [List.getElem?_cons_zero] at hj; cases hj; exact h4 i (by omega) } | succ j => { rw [List.getElem?_cons_succ] at hj; rw [h5 _ (by omega), show 19 - (j + 1) = 19 - 1 - j by omega]; exact hfull j T hj (by omega) i hi }; rw [if_neg hj20] at hj; cases hj⟩
                · exact absurd h54 (by omega)
              | succ j2 ih2 =>
                intro i2 M4 hi2 hf4 hc4 h4 h5
                refine zz_iload_n (pc := 51) E dX8_keeps_51 rfl ?_
                refine zz_bipush (pc := 52) (v := nI 24) E dX8_keeps_52 (by decide) ?_
                refine zn_icmp_ge (pc := 54) (tgt := 83) E dX8_keeps_54 (by decide) (by omega) (by omega) (fun h54 => ?_) (fun h54 => ?_)
                · exact absurd h54 (by omega)
                · refine zz_aload_n (pc := 57) E dX8_keeps_57 rfl ?_
                  refine zz_gf (pc := 58) E 100 (by decide) rfl rfl inX8_keeps_X8 2 (by decide) lkX8_keeps_13 (fun _ h => h) rfl dX8_keeps_58 ?_
                  refine zz_bipush (pc := 61) (v := nI 24) E dX8_keeps_61 (by decide) ?_
                  refine zz_aload_n (pc := 63) E dX8_keeps_63 rfl ?_
                  refine zz_gf (pc := 64) E 100 (by decide) rfl rfl inX8_keeps_X8 1 (by decide) lkX8_keeps_50 (fun _ h => h) rfl dX8_keeps_64 ?_
                  refine zz_eqi (y := nI 19) hc4 ?_
                  refine zn_imul (pc := 67) E dX8_keeps_67 ?_
                  refine zz_iload_n (pc := 68) E dX8_keeps_68 rfl ?_
                  refine zn_iadd (pc := 69) E dX8_keeps_69 ?_
                  refine zz_aload_n (pc := 70) E dX8_keeps_70 rfl ?_
                  refine zz_gf (pc := 71) E 100 (by decide) rfl rfl inX8_keeps_X8 0 (by decide) lkX8_keeps_7 (fun _ h => h) rfl dX8_keeps_71 ?_
                  refine zz_iload_n (pc := 74) E dX8_keeps_74 rfl ?_
                  refine zz_iald (pc := 75) E 101 (_) (n := 24) (by decide) rfl rfl (by omega) (by decide) dX8_keeps_75 ?_
                  refine zz_iast (pc := 76) E 102 (24 * 19 + i2) (n := 480) (by decide) (fun _ => rfl) rfl (by omega) (by decide) dX8_keeps_76 ?_
                  refine zn_inc (pc := 77) (lv' := [(0, _), (1, _)]) E dX8_keeps_77 rfl (by decide) rfl ?_
                  refine zz_goto (pc := 80) (tgt := 51) E dX8_keeps_80 (by decide) ?_
                  exact zz_to (ih2 (i2 + 1) _ (by omega) (zfr_up hf4 (by simp)) (by rw [zz_up_ne _ _ (by decide)]; exact hc4) (fun q hq => by rw [zz_up_same]; by_cases e : q = i2; rw [e, upd_same, hf4 101 (by decide)]; exact hS i2 (by omega); rw [upd_ne _ _ (by omega)]; exact h4 q (by omega)) (fun q hq => by rw [zz_up_same, upd_ne _ _ (by omega)]; exact h5 q hq)) ⟨rfl, rfl, trivial⟩
            exact zz_to (key2 24 0 M3 (by omega) hf3 hc3 (fun q hq => absurd hq (by omega)) (fun q _ => by rw [h103])) ⟨rfl, rfl, trivial⟩
          · exact absurd h15 (by omega)
        | succ j ih =>
          intro i M2 hi hf h1 h2
          refine zz_iload_n (pc := 11) E dX8_keeps_11 rfl ?_
          refine zz_sipush (pc := 12) (v := nI 456) E dX8_keeps_12 (by decide) ?_
          refine zn_icmp_ge (pc := 15) (tgt := 39) E dX8_keeps_15 (by decide) (by omega) (by omega) (fun h15 => ?_) (fun h15 => ?_)
          · exact absurd h15 (by omega)
          · refine zz_aload_n (pc := 18) E dX8_keeps_18 rfl ?_
            refine zz_gf (pc := 19) E 100 (by decide) rfl rfl inX8_keeps_X8 2 (by decide) lkX8_keeps_13 (fun _ h => h) rfl dX8_keeps_19 ?_
            refine zz_iload_n (pc := 22) E dX8_keeps_22 rfl ?_
            refine zz_aload_n (pc := 23) E dX8_keeps_23 rfl ?_
            refine zz_gf (pc := 24) E 100 (by decide) rfl rfl inX8_keeps_X8 2 (by decide) lkX8_keeps_13 (fun _ h => h) rfl dX8_keeps_24 ?_
            refine zz_iload_n (pc := 27) E dX8_keeps_27 rfl ?_
            refine zz_bipush (pc := 28) (v := nI 24) E dX8_keeps_28 (by decide) ?_
            refine zn_iadd (pc := 30) E dX8_keeps_30 ?_
            refine zz_iald (pc := 31) E 102 (i + 24) (n := 480) (by decide) rfl rfl (by omega) (by decide) dX8_keeps_31 ?_
            refine zz_iast (pc := 32) E 102 (_) (n := 480) (by decide) (fun _ => rfl) rfl (by omega) (by decide) dX8_keeps_32 ?_
            refine zn_inc (pc := 33) (lv' := [(0, _), (1, _)]) E dX8_keeps_33 rfl (by decide) rfl ?_
            refine zz_goto (pc := 36) (tgt := 11) E dX8_keeps_36 (by decide) ?_
            exact zz_to (ih (i + 1) _ (by omega) (zfr_up hf (by simp)) (fun q hq => by rw [zz_up_same]; by_cases e : q = i; rw [e, upd_same, h2 _ (by omega)]; rw [upd_ne _ _ e]; exact h1 q (by omega)) (fun q hq => by rw [zz_up_same, upd_ne _ _ (by omega)]; exact h2 q (by omega))) ⟨rfl, rfl, trivial⟩
      exact zz_to (key 456 0 M (by omega) (zfr_rf _ _) (fun q hq => absurd hq (by omega)) (fun _ _ => rfl)) ⟨rfl, rfl, trivial⟩
  · refine zz_aload_n (pc := 0) E dX8_keeps_0 rfl ?_
    refine zz_gf (pc := 1) E 100 (by decide) rfl rfl inX8_keeps_X8 1 (by decide) lkX8_keeps_50 (fun _ h => h) rfl dX8_keeps_1 ?_
    refine zz_eqi (y := nI hs.length) g1 ?_
    refine zz_bipush (pc := 4) (v := nI 20) E dX8_keeps_4 (by decide) ?_
    refine zn_icmp_ne (pc := 6) (tgt := 49) E dX8_keeps_6 (by decide) (by omega) (by omega) (fun h6 => ?_) (fun h6 => ?_)
    · refine zz_iconst (pc := 49) (v := nI 0) E dX8_keeps_49 (by decide) ?_
      refine zz_istore_n (pc := 50) (lv' := [(0, _), (1, _)]) E dX8_keeps_50 (by decide) rfl ?_
      have key2 : ∀ (j2 i2 : Nat) (M4 : zz_M), i2 + j2 = 24 → zfr [102] M M4 → (∀ q, q < i2 → M4 102 (24 * hs.length + q) = zo (S q)) → (∀ q, q < 24 * hs.length → M4 102 q = M 102 q) → zz_Z p l e (headSpec wsX8_keeps ({ frames := 0, cells := 0, slots := 0, locals := 0 } : Room)).room s m ([.ref (G.2.2 100)] : List Value).toArray below meth c 0 0 (MQ below (zz_Qv G (fun M1 => zfr [100, 102] M M1 ∧ zah M1 (zkp S hs))) ([.ref (G.2.2 100)] : List Value).toArray s 0 0 (zz_A G)) 2 G (zz_A G) M4 51 [(0, .ref (G.2.2 100)), (1, .int (nI i2))] [] := by
        intro j2
        induction j2 with
        | zero =>
          intro i2 M4 hi2 hf4 h4 h5
          refine zz_iload_n (pc := 51) E dX8_keeps_51 rfl ?_
          refine zz_bipush (pc := 52) (v := nI 24) E dX8_keeps_52 (by decide) ?_
          refine zn_icmp_ge (pc := 54) (tgt := 83) E dX8_keeps_54 (by decide) (by omega) (by omega) (fun h54 => ?_) (fun h54 => ?_)
          · refine zz_aload_n (pc := 83) E dX8_keeps_83 rfl ?_
            refine zz_dup (pc := 84) E dX8_keeps_84 rfl ?_
            refine zz_gf (pc := 85) E 100 (by decide) rfl rfl inX8_keeps_X8 1 (by decide) lkX8_keeps_50 (fun _ h => h) rfl dX8_keeps_85 ?_
            refine zz_eqi (y := nI hs.length) (by rw [hf4 100 (by decide)]; exact g1) ?_
            refine zz_iconst (pc := 88) (v := nI 1) E dX8_keeps_88 (by decide) ?_
            refine zn_iadd (pc := 89) E dX8_keeps_89 ?_
            refine zz_pfj (pc := 90) E 100 0 (by decide) rfl rfl inX8_keeps_X8 tyX8 tyX8_ok nmX8 1 (by decide) lkX8_keeps_50 (fun _ h => h) rfl rfl (Nat.le_of_ble_eq_true rfl) rfl dX8_keeps_90 ?_
            exact zz_vret (pc := 93) E hr hlk dX8_keeps_93 ⟨zfr_up (zfr_mono hf4 (by simp)) (by simp), by rw [zz_up_same, upd_same]; unfold zkp; rw [List.length_take, List.length_cons, Nat.min_eq_right (by omega)], by unfold zkp; rw [List.length_take]; omega, fun j T hj i hi => by unfold zkp at hj ⊢; rw [List.take_of_length_le (by rw [List.length_cons]; omega)] at hj ⊢; rw [zz_up_ne _ _ (by decide), List.length_cons]; cases j with | zero => { rw [List.getElem?_cons_zero] at hj; cases hj; rw [show hs.length + 1 - 1 - 0 = hs.length by omega]; exact h4 i (by omega) } | succ j => { rw [List.getElem?_cons_succ] at hj; have hjl := (List.getElem?_eq_some_iff.mp hj).1; rw [show hs.length + 1 - 1 - (j + 1) = hs.length - 1 - j by omega, h5 _ (by omega)]; exact g3 j T hj i hi }⟩
          · exact absurd h54 (by omega)
        | succ j2 ih2 =>
          intro i2 M4 hi2 hf4 h4 h5
          have hl20 : hs.length < 20 := by omega
          have hb480 : 24 * hs.length + i2 < 480 := by omega
          refine zz_iload_n (pc := 51) E dX8_keeps_51 rfl ?_
          refine zz_bipush (pc := 52) (v := nI 24) E dX8_keeps_52 (by decide) ?_
          refine zn_icmp_ge (pc := 54) (tgt := 83) E dX8_keeps_54 (by decide) (by omega) (by omega) (fun h54 => ?_) (fun h54 => ?_)
          · exact absurd h54 (by omega)
          · refine zz_aload_n (pc := 57) E dX8_keeps_57 rfl ?_
            refine zz_gf (pc := 58) E 100 (by decide) rfl rfl inX8_keeps_X8 2 (by decide) lkX8_keeps_13 (fun _ h => h) rfl dX8_keeps_58 ?_
            refine zz_bipush (pc := 61) (v := nI 24) E dX8_keeps_61 (by decide) ?_
            refine zz_aload_n (pc := 63) E dX8_keeps_63 rfl ?_
            refine zz_gf (pc := 64) E 100 (by decide) rfl rfl inX8_keeps_X8 1 (by decide) lkX8_keeps_50 (fun _ h => h) rfl dX8_keeps_64 ?_
            refine zz_eqi (y := nI hs.length) (by rw [hf4 100 (by decide)]; exact g1) ?_
            refine zn_imul (pc := 67) E dX8_keeps_67 ?_
            refine zz_iload_n (pc := 68) E dX8_keeps_68 rfl ?_
            refine zn_iadd (pc := 69) E dX8_keeps_69 ?_
            refine zz_aload_n (pc := 70) E dX8_keeps_70 rfl ?_
            refine zz_gf (pc := 71) E 100 (by decide) rfl rfl inX8_keeps_X8 0 (by decide) lkX8_keeps_7 (fun _ h => h) rfl dX8_keeps_71 ?_
            refine zz_iload_n (pc := 74) E dX8_keeps_74 rfl ?_
            refine zz_iald (pc := 75) E 101 (_) (n := 24) (by decide) rfl rfl (by omega) (by decide) dX8_keeps_75 ?_
            refine zz_iast (pc := 76) E 102 (24 * hs.length + i2) (n := 480) (by decide) (fun _ => rfl) rfl (by omega) (by decide) dX8_keeps_76 ?_
            refine zn_inc (pc := 77) (lv' := [(0, _), (1, _)]) E dX8_keeps_77 rfl (by decide) rfl ?_
            refine zz_goto (pc := 80) (tgt := 51) E dX8_keeps_80 (by decide) ?_
            exact zz_to (ih2 (i2 + 1) _ (by omega) (zfr_up hf4 (by simp)) (fun q hq => by rw [zz_up_same]; by_cases e : q = i2; rw [e, upd_same, hf4 101 (by decide)]; exact hS i2 (by omega); rw [upd_ne _ _ (by omega)]; exact h4 q (by omega)) (fun q hq => by rw [zz_up_same, upd_ne _ _ (by omega)]; exact h5 q hq)) ⟨rfl, rfl, trivial⟩
      exact zz_to (key2 24 0 M (by omega) (zfr_rf _ _) (fun q hq => absurd hq (by omega)) (fun q _ => rfl)) ⟨rfl, rfl, trivial⟩
    · exact absurd h6 h20

theorem inX8_rule_X8 : ∀ w ∈ u_ws RX8 TX8 14, w ∈ wsX8_rule := by decide +kernel
theorem lkX8_rule_7 : Cond.fieldLink RX8 7 RX8 "told" "[I" ∈ wsX8_rule := by decide +kernel
set_option maxHeartbeats 4000000 in
set_option maxRecDepth 100000 in
theorem kkX8_rule (l : Launch) (G : zz_C) (hJ : zz_J G) (M : zz_M) (S : Nat → Option Nat) (hs : List (Nat → Option Nat)) (x y z : Int32) (hI : zJ M S hs) : Met l yX8_rule wsX8_rule ({ frames := 3, cells := 0, slots := 0, locals := 68 } : Room) (zz_P G M [.ref (G.2.2 100), .int x, .int y, .int z]) (zz_Qi G (fun r M1 => zhi M M1 ∧ r = (sp_rule S hs x y z).1 ∧ zJ M1 (sp_rule S hs x y z).2.1 (sp_rule S hs x y z).2.2)) 0 0 (zz_A G) := by
  refine zz_start hJ (by decide) rfl (Nat.le_of_ble_eq_true rfl) ?_
  intro p e s m below meth c E hr hlk
  have hts := E.2.2.2.2.1
  show zz_Z p l e (headSpec wsX8_rule ({ frames := 3, cells := 0, slots := 0, locals := 68 } : Room)).room s m ([.ref (G.2.2 100), .int x, .int y, .int z] : List Value).toArray below meth c 0 0 (MQ below (zz_Qi G (fun r M1 => zhi M M1 ∧ r = (sp_rule S hs x y z).1 ∧ zJ M1 (sp_rule S hs x y z).2.1 (sp_rule S hs x y z).2.2)) ([.ref (G.2.2 100), .int x, .int y, .int z] : List Value).toArray s 0 0 (zz_A G)) 5 G (zz_A G) M 0 [(0, .ref (G.2.2 100)), (1, .int x), (2, .int y), (3, .int z)] []
  obtain ⟨hV, hh, hS, hp⟩ := id hI
  refine zz_iload_n (pc := 0) E dX8_rule_0 rfl ?_
  refine zz_ciS (pc := 1) E (kkX8_isSign l G hJ _ _ ) (va_cwS 1 hts gX8_rule_X8_isSign rfl rfl rfl (by decide +kernel) ⟨Nat.le_of_ble_eq_true rfl, Nat.le_of_ble_eq_true rfl⟩) rfl rfl (Nat.le_of_ble_eq_true rfl) dX8_rule_1 (fun r1 M1 q1 => ?_)
  obtain ⟨rfl, rfl⟩ := q1
  refine zb_if_eq (pc := 4) (tgt := 14) E dX8_rule_4 (by decide) (fun h4 => ?_) (fun h4 => ?_)
  · have hsp : sp_rule S hs x y z = (-1, S, hs) := by unfold sp_rule; rw [if_neg (by rw [h4]; simp)]
    refine zz_iconst (pc := 14) (v := -1) E dX8_rule_14 (by decide) ?_
    exact zz_iret (pc := 15) E hr hlk dX8_rule_15 ⟨zhi_rf _, by rw [hsp], by rw [hsp]; exact hI⟩
  · refine zz_iload_n (pc := 7) E dX8_rule_7 rfl ?_
    refine zz_ciS (pc := 8) E (kkX8_isLetter l G hJ _ _ ) (va_cwS 1 hts gX8_rule_X8_isLetter rfl rfl rfl (by decide +kernel) ⟨Nat.le_of_ble_eq_true rfl, Nat.le_of_ble_eq_true rfl⟩) rfl rfl (Nat.le_of_ble_eq_true rfl) dX8_rule_8 (fun r8 M8 q8 => ?_)
    obtain ⟨rfl, rfl⟩ := q8
    refine zb_if_ne (pc := 11) (tgt := 16) E dX8_rule_11 (by decide) (fun h11 => ?_) (fun h11 => ?_)
    · obtain ⟨s0, hs0, hxs⟩ := zp_in_of h4 (by decide)
      obtain ⟨a0, ha0, hya⟩ := zp_in_of h11 (by decide)
      have hxn : x.toInt.toNat = s0 := by rw [hxs, nI_nat (by omega)]
      have hyn : y.toInt.toNat = a0 := by rw [hya, nI_nat (by omega)]
      refine zz_iload_n (pc := 16) E dX8_rule_16 rfl ?_
      refine zz_bipush (pc := 17) (v := -9) E dX8_rule_17 (by decide) ?_
      refine zz_icmp_eq (pc := 19) (tgt := 33) E dX8_rule_19 (by decide) (fun h19 => ?_) (fun h19 => ?_)
      · have hzz : (decide (z = -9) || zs_row z.toInt64 6 3) = true := by rw [decide_eq_true h19]; rfl
        have hsp : sp_rule S hs x y z = (zo (S (3 * s0 + a0)), zvu S (3 * s0 + a0) (zin z), zkp S hs) := by unfold sp_rule; rw [if_pos (by rw [h4, h11]; rfl), if_pos hzz, hxn, hyn]
        refine zz_aload_n (pc := 33) E dX8_rule_33 rfl ?_
        refine zz_cvV (pc := 34) E 100 (kkX8_keeps l G hJ _  S hs hS hp) (cwV 0 hts gX8_rule_X8_keeps rfl rfl rfl (by decide +kernel) ⟨Nat.le_of_ble_eq_true rfl, Nat.le_of_ble_eq_true rfl⟩) (by decide) rfl rfl rfl rfl (Nat.le_of_ble_eq_true rfl) dX8_rule_34 (fun M34 q34 => ?_)
        obtain ⟨f34, w34⟩ := q34
        have hS2 : ztl M34 S := fun i hi => by rw [f34 101 (by decide)]; exact hS i hi
        refine zz_aload_n (pc := 37) E dX8_rule_37 rfl ?_
        refine zz_iload_n (pc := 38) E dX8_rule_38 rfl ?_
        refine zz_eqi (y := nI s0) hxs ?_
        refine zz_iload_n (pc := 39) E dX8_rule_39 rfl ?_
        refine zz_eqi (y := nI a0) hya ?_
        refine zz_ciV (pc := 40) E 100 (kkX8_ruleOf l G hJ _ _ _ (by omega) (by omega)) (cwV 2 hts gX8_rule_X8_ruleOf rfl rfl rfl (by decide +kernel) ⟨Nat.le_of_ble_eq_true rfl, Nat.le_of_ble_eq_true rfl⟩) (by decide) rfl rfl rfl rfl (Nat.le_of_ble_eq_true rfl) dX8_rule_40 (fun r40 M40 q40 => ?_)
        obtain ⟨rfl, rfl⟩ := q40
        refine zz_eqi (y := zo (S (3 * s0 + a0))) (hS2 _ (by omega)) ?_
        refine zz_istore (pc := 43) (lv' := [(0, _), (1, _), (2, _), (3, _), (4, _)]) E dX8_rule_43 (by decide) rfl ?_
        refine zz_aload_n (pc := 45) E dX8_rule_45 rfl ?_
        refine zz_gf (pc := 46) E 100 (by decide) rfl rfl inX8_rule_X8 0 (by decide) lkX8_rule_7 (fun _ h => h) rfl dX8_rule_46 ?_
        refine zz_iconst (pc := 49) (v := nI 3) E dX8_rule_49 (by decide) ?_
        refine zz_iload_n (pc := 50) E dX8_rule_50 rfl ?_
        refine zz_eqi (y := nI s0) hxs ?_
        refine zn_imul (pc := 51) E dX8_rule_51 ?_
        refine zz_iload_n (pc := 52) E dX8_rule_52 rfl ?_
        refine zz_eqi (y := nI a0) hya ?_
        refine zn_iadd (pc := 53) E dX8_rule_53 ?_
        refine zz_iload_n (pc := 54) E dX8_rule_54 rfl ?_
        refine zz_iast (pc := 55) E 101 (3 * s0 + a0) (n := 24) (by decide) (fun _ => rfl) rfl (by omega) (by decide) dX8_rule_55 ?_
        refine zz_iload (pc := 56) E dX8_rule_56 rfl ?_
        exact zz_iret (pc := 58) E hr hlk dX8_rule_58 ⟨zhi_up (zfr_hi f34 (by decide)) (by decide), by rw [hsp], by rw [hsp]; exact ⟨zV_rule hV (by omega) (fun a ha => (zin_ok hzz (by decide) ha).1), zkp_V hV hh, ztl_up hS2 (by omega) (zo_zin hzz (by decide)), zah_mf (ks := [101]) w34 (zmf_up (zmf_rf _ _) (by simp) (by decide)) (by decide)⟩⟩
      · refine zz_iload_n (pc := 22) E dX8_rule_22 rfl ?_
        refine zz_iconst (pc := 23) (v := nI 3) E dX8_rule_23 (by decide) ?_
        refine zz_ciS (pc := 24) E (kkX8_isRow l G hJ _ _ _ (by decide)) (va_cwS 2 hts gX8_rule_X8_isRow rfl rfl rfl (by decide +kernel) ⟨Nat.le_of_ble_eq_true rfl, Nat.le_of_ble_eq_true rfl⟩) rfl rfl (Nat.le_of_ble_eq_true rfl) dX8_rule_24 (fun r24 M24 q24 => ?_)
        obtain ⟨rfl, rfl⟩ := q24
        refine zb_if_ne (pc := 27) (tgt := 33) E dX8_rule_27 (by decide) (fun h27 => ?_) (fun h27 => ?_)
        · have hzz : (decide (z = -9) || zs_row z.toInt64 6 3) = true := by rw [h27, Bool.or_true]
          have hsp : sp_rule S hs x y z = (zo (S (3 * s0 + a0)), zvu S (3 * s0 + a0) (zin z), zkp S hs) := by unfold sp_rule; rw [if_pos (by rw [h4, h11]; rfl), if_pos hzz, hxn, hyn]
          refine zz_aload_n (pc := 33) E dX8_rule_33 rfl ?_
          refine zz_cvV (pc := 34) E 100 (kkX8_keeps l G hJ _  S hs hS hp) (cwV 0 hts gX8_rule_X8_keeps rfl rfl rfl (by decide +kernel) ⟨Nat.le_of_ble_eq_true rfl, Nat.le_of_ble_eq_true rfl⟩) (by decide) rfl rfl rfl rfl (Nat.le_of_ble_eq_true rfl) dX8_rule_34 (fun M34 q34 => ?_)
          obtain ⟨f34, w34⟩ := q34
          have hS2 : ztl M34 S := fun i hi => by rw [f34 101 (by decide)]; exact hS i hi
          refine zz_aload_n (pc := 37) E dX8_rule_37 rfl ?_
          refine zz_iload_n (pc := 38) E dX8_rule_38 rfl ?_
          refine zz_eqi (y := nI s0) hxs ?_
          refine zz_iload_n (pc := 39) E dX8_rule_39 rfl ?_
          refine zz_eqi (y := nI a0) hya ?_
          refine zz_ciV (pc := 40) E 100 (kkX8_ruleOf l G hJ _ _ _ (by omega) (by omega)) (cwV 2 hts gX8_rule_X8_ruleOf rfl rfl rfl (by decide +kernel) ⟨Nat.le_of_ble_eq_true rfl, Nat.le_of_ble_eq_true rfl⟩) (by decide) rfl rfl rfl rfl (Nat.le_of_ble_eq_true rfl) dX8_rule_40 (fun r40 M40 q40 => ?_)
          obtain ⟨rfl, rfl⟩ := q40
          refine zz_eqi (y := zo (S (3 * s0 + a0))) (hS2 _ (by omega)) ?_
          refine zz_istore (pc := 43) (lv' := [(0, _), (1, _), (2, _), (3, _), (4, _)]) E dX8_rule_43 (by decide) rfl ?_
          refine zz_aload_n (pc := 45) E dX8_rule_45 rfl ?_
          refine zz_gf (pc := 46) E 100 (by decide) rfl rfl inX8_rule_X8 0 (by decide) lkX8_rule_7 (fun _ h => h) rfl dX8_rule_46 ?_
          refine zz_iconst (pc := 49) (v := nI 3) E dX8_rule_49 (by decide) ?_
          refine zz_iload_n (pc := 50) E dX8_rule_50 rfl ?_
          refine zz_eqi (y := nI s0) hxs ?_
          refine zn_imul (pc := 51) E dX8_rule_51 ?_
          refine zz_iload_n (pc := 52) E dX8_rule_52 rfl ?_
          refine zz_eqi (y := nI a0) hya ?_
          refine zn_iadd (pc := 53) E dX8_rule_53 ?_
          refine zz_iload_n (pc := 54) E dX8_rule_54 rfl ?_
          refine zz_iast (pc := 55) E 101 (3 * s0 + a0) (n := 24) (by decide) (fun _ => rfl) rfl (by omega) (by decide) dX8_rule_55 ?_
          refine zz_iload (pc := 56) E dX8_rule_56 rfl ?_
          exact zz_iret (pc := 58) E hr hlk dX8_rule_58 ⟨zhi_up (zfr_hi f34 (by decide)) (by decide), by rw [hsp], by rw [hsp]; exact ⟨zV_rule hV (by omega) (fun a ha => (zin_ok hzz (by decide) ha).1), zkp_V hV hh, ztl_up hS2 (by omega) (zo_zin hzz (by decide)), zah_mf (ks := [101]) w34 (zmf_up (zmf_rf _ _) (by simp) (by decide)) (by decide)⟩⟩
        · have hsp : sp_rule S hs x y z = (-2, S, hs) := by unfold sp_rule; rw [if_pos (by rw [h4, h11]; rfl), if_neg (by rw [decide_eq_false h19, h27]; simp)]
          refine zz_bipush (pc := 30) (v := -2) E dX8_rule_30 (by decide) ?_
          exact zz_iret (pc := 32) E hr hlk dX8_rule_32 ⟨zhi_rf _, by rw [hsp], by rw [hsp]; exact hI⟩
    · have hsp : sp_rule S hs x y z = (-1, S, hs) := by unfold sp_rule; rw [if_neg (by rw [h11]; simp)]
      refine zz_iconst (pc := 14) (v := -1) E dX8_rule_14 (by decide) ?_
      exact zz_iret (pc := 15) E hr hlk dX8_rule_15 ⟨zhi_rf _, by rw [hsp], by rw [hsp]; exact hI⟩

set_option maxHeartbeats 4000000 in
set_option maxRecDepth 100000 in
theorem kkX8_ofRule (l : Launch) (G : zz_C) (hJ : zz_J G) (M : zz_M) (S : Nat → Option Nat) (hs : List (Nat → Option Nat)) (x y : Int32) (hI : zJ M S hs) : Met l yX8_ofRule wsX8_ofRule ({ frames := 2, cells := 0, slots := 0, locals := 42 } : Room) (zz_P G M [.ref (G.2.2 100), .int x, .int y]) (zz_Qi G (fun r M1 => zhi M M1 ∧ zJ M1 S hs ∧ r = sp_ofRule S x y)) 0 0 (zz_A G) := by
  refine zz_start hJ (by decide) rfl (Nat.le_of_ble_eq_true rfl) ?_
  intro p e s m below meth c E hr hlk
  have hts := E.2.2.2.2.1
  show zz_Z p l e (headSpec wsX8_ofRule ({ frames := 2, cells := 0, slots := 0, locals := 42 } : Room)).room s m ([.ref (G.2.2 100), .int x, .int y] : List Value).toArray below meth c 0 0 (MQ below (zz_Qi G (fun r M1 => zhi M M1 ∧ zJ M1 S hs ∧ r = sp_ofRule S x y)) ([.ref (G.2.2 100), .int x, .int y] : List Value).toArray s 0 0 (zz_A G)) 3 G (zz_A G) M 0 [(0, .ref (G.2.2 100)), (1, .int x), (2, .int y)] []
  refine zz_iload_n (pc := 0) E dX8_ofRule_0 rfl ?_
  refine zz_ciS (pc := 1) E (kkX8_isSign l G hJ _ _ ) (va_cwS 1 hts gX8_ofRule_X8_isSign rfl rfl rfl (by decide +kernel) ⟨Nat.le_of_ble_eq_true rfl, Nat.le_of_ble_eq_true rfl⟩) rfl rfl (Nat.le_of_ble_eq_true rfl) dX8_ofRule_1 (fun r1 M1 q1 => ?_)
  obtain ⟨rfl, rfl⟩ := q1
  refine zb_if_eq (pc := 4) (tgt := 23) E dX8_ofRule_4 (by decide) (fun h4 => ?_) (fun h4 => ?_)
  · have hsp : sp_ofRule S x y = -1 := by unfold sp_ofRule; rw [if_neg (by rw [h4]; simp)]
    refine zz_iconst (pc := 23) (v := -1) E dX8_ofRule_23 (by decide) ?_
    exact zz_iret (pc := 24) E hr hlk dX8_ofRule_24 ⟨zhi_rf _, hI, by rw [hsp]⟩
  · refine zz_iload_n (pc := 7) E dX8_ofRule_7 rfl ?_
    refine zz_ciS (pc := 8) E (kkX8_isLetter l G hJ _ _ ) (va_cwS 1 hts gX8_ofRule_X8_isLetter rfl rfl rfl (by decide +kernel) ⟨Nat.le_of_ble_eq_true rfl, Nat.le_of_ble_eq_true rfl⟩) rfl rfl (Nat.le_of_ble_eq_true rfl) dX8_ofRule_8 (fun r8 M8 q8 => ?_)
    obtain ⟨rfl, rfl⟩ := q8
    refine zb_if_eq (pc := 11) (tgt := 23) E dX8_ofRule_11 (by decide) (fun h11 => ?_) (fun h11 => ?_)
    · have hsp : sp_ofRule S x y = -1 := by unfold sp_ofRule; rw [if_neg (by rw [h11]; simp)]
      refine zz_iconst (pc := 23) (v := -1) E dX8_ofRule_23 (by decide) ?_
      exact zz_iret (pc := 24) E hr hlk dX8_ofRule_24 ⟨zhi_rf _, hI, by rw [hsp]⟩
    · obtain ⟨s0, hs0, hxs⟩ := zp_in_of h4 (by decide)
      obtain ⟨a0, ha0, hya⟩ := zp_in_of h11 (by decide)
      have hsp : sp_ofRule S x y = zo (S (3 * s0 + a0)) := by unfold sp_ofRule; rw [if_pos (by rw [h4, h11]; rfl), hxs, hya, nI_nat (by omega), nI_nat (by omega)]
      refine zz_aload_n (pc := 14) E dX8_ofRule_14 rfl ?_
      refine zz_iload_n (pc := 15) E dX8_ofRule_15 rfl ?_
      refine zz_eqi (y := nI s0) hxs ?_
      refine zz_iload_n (pc := 16) E dX8_ofRule_16 rfl ?_
      refine zz_eqi (y := nI a0) hya ?_
      refine zz_ciV (pc := 17) E 100 (kkX8_ruleOf l G hJ _ _ _ (by omega) (by omega)) (cwV 2 hts gX8_ofRule_X8_ruleOf rfl rfl rfl (by decide +kernel) ⟨Nat.le_of_ble_eq_true rfl, Nat.le_of_ble_eq_true rfl⟩) (by decide) rfl rfl rfl rfl (Nat.le_of_ble_eq_true rfl) dX8_ofRule_17 (fun r17 M17 q17 => ?_)
      obtain ⟨rfl, rfl⟩ := q17
      refine zz_eqi (y := zo (S (3 * s0 + a0))) (hI.2.2.1 _ (by omega)) ?_
      refine zz_goto (pc := 20) (tgt := 24) E dX8_ofRule_20 (by decide) ?_
      exact zz_iret (pc := 24) E hr hlk dX8_ofRule_24 ⟨zhi_rf _, hI, by rw [hsp]⟩

theorem inX8_read_X8 : ∀ w ∈ u_ws RX8 TX8 14, w ∈ wsX8_read := by decide +kernel
theorem lkX8_read_72 : Cond.fieldLink RX8 72 RX8 "stacked" "I" ∈ wsX8_read := by decide +kernel
theorem lkX8_read_16 : Cond.fieldLink RX8 16 RX8 "stack" "[I" ∈ wsX8_read := by decide +kernel
set_option maxHeartbeats 4000000 in
set_option maxRecDepth 100000 in
theorem kkX8_read (l : Launch) (G : zz_C) (hJ : zz_J G) (M : zz_M) (S : Nat → Option Nat) (hs : List (Nat → Option Nat)) (x : Int32) (y : Int64) (w : Int32) (hI : zJ M S hs) : Met l yX8_read wsX8_read ({ frames := 5, cells := 0, slots := 0, locals := 116 } : Room) (zz_P G M [.ref (G.2.2 100), .int x, .long y, .int w]) (zz_Qi G (fun r M1 => zhi M M1 ∧ zJ M1 S hs ∧ r = sp_read S x y w)) 0 0 (zz_A G) := by
  refine zz_start hJ (by decide) rfl (Nat.le_of_ble_eq_true rfl) ?_
  intro p e s m below meth c E hr hlk
  have hts := E.2.2.2.2.1
  show zz_Z p l e (headSpec wsX8_read ({ frames := 5, cells := 0, slots := 0, locals := 116 } : Room)).room s m ([.ref (G.2.2 100), .int x, .long y, .int w] : List Value).toArray below meth c 0 0 (MQ below (zz_Qi G (fun r M1 => zhi M M1 ∧ zJ M1 S hs ∧ r = sp_read S x y w)) ([.ref (G.2.2 100), .int x, .long y, .int w] : List Value).toArray s 0 0 (zz_A G)) 7 G (zz_A G) M 0 [(0, .ref (G.2.2 100)), (1, .int x), (2, .long y), (4, .int w)] []
  obtain ⟨hV, hh, hS, hp⟩ := id hI
  refine zz_lload_n (pc := 0) E dX8_read_0 rfl ?_
  refine zz_iconst (pc := 1) (v := nI 3) E dX8_read_1 (by decide) ?_
  refine zz_ciS (pc := 2) E (kkX8_digits l G hJ _ _ _ (by decide)) (va_cwS 2 hts gX8_read_X8_digits rfl rfl rfl (by decide +kernel) ⟨Nat.le_of_ble_eq_true rfl, Nat.le_of_ble_eq_true rfl⟩) rfl rfl (Nat.le_of_ble_eq_true rfl) dX8_read_2 (fun r2 M2 q2 => ?_)
  obtain ⟨rfl, rfl⟩ := q2
  refine zz_istore (pc := 5) (lv' := [(0, _), (1, _), (2, _), (4, _), (5, _)]) E dX8_read_5 (by decide) rfl ?_
  refine zz_iload_n (pc := 7) E dX8_read_7 rfl ?_
  refine zz_bipush (pc := 8) (v := nI 9) E dX8_read_8 (by decide) ?_
  refine zz_ciS (pc := 10) E (kkX8_isRow l G hJ _ _ _ (by decide)) (va_cwS 2 hts gX8_read_X8_isRow rfl rfl rfl (by decide +kernel) ⟨Nat.le_of_ble_eq_true rfl, Nat.le_of_ble_eq_true rfl⟩) rfl rfl (Nat.le_of_ble_eq_true rfl) dX8_read_10 (fun r10 M10 q10 => ?_)
  obtain ⟨rfl, rfl⟩ := q10
  refine zb_if_eq (pc := 13) (tgt := 37) E dX8_read_13 (by decide) (fun h13 => ?_) (fun h13 => ?_)
  · have hsp : sp_read S x y w = -2 := by unfold sp_read; rw [if_neg (by rw [h13]; simp)]
    refine zz_bipush (pc := 37) (v := -2) E dX8_read_37 (by decide) ?_
    exact zz_iret (pc := 39) E hr hlk dX8_read_39 ⟨zhi_rf _, hI, by rw [hsp]⟩
  · refine zz_iload (pc := 16) E dX8_read_16 rfl ?_
    refine zz_iconst (pc := 18) (v := nI 0) E dX8_read_18 (by decide) ?_
    refine zz_bipush (pc := 19) (v := nI 12) E dX8_read_19 (by decide) ?_
    refine zz_ciS (pc := 21) E (kkX8_within l G hJ _ _ _ _ ) (va_cwS 3 hts gX8_read_X8_within rfl rfl rfl (by decide +kernel) ⟨Nat.le_of_ble_eq_true rfl, Nat.le_of_ble_eq_true rfl⟩) rfl rfl (Nat.le_of_ble_eq_true rfl) dX8_read_21 (fun r21 M21 q21 => ?_)
    obtain ⟨rfl, rfl⟩ := q21
    refine zb_if_eq (pc := 24) (tgt := 37) E dX8_read_24 (by decide) (fun h24 => ?_) (fun h24 => ?_)
    · rw [zs_w0 (by decide)] at h24
      have hsp : sp_read S x y w = -2 := by unfold sp_read; rw [if_neg (by rw [h24]; simp)]
      refine zz_bipush (pc := 37) (v := -2) E dX8_read_37 (by decide) ?_
      exact zz_iret (pc := 39) E hr hlk dX8_read_39 ⟨zhi_rf _, hI, by rw [hsp]⟩
    · rw [zs_w0 (by decide)] at h24
      refine zz_iload (pc := 27) E dX8_read_27 rfl ?_
      refine zz_iconst (pc := 29) (v := nI 0) E dX8_read_29 (by decide) ?_
      refine zz_iconst (pc := 30) (v := nI 3) E dX8_read_30 (by decide) ?_
      refine zz_ciS (pc := 31) E (kkX8_within l G hJ _ _ _ _ ) (va_cwS 3 hts gX8_read_X8_within rfl rfl rfl (by decide +kernel) ⟨Nat.le_of_ble_eq_true rfl, Nat.le_of_ble_eq_true rfl⟩) rfl rfl (Nat.le_of_ble_eq_true rfl) dX8_read_31 (fun r31 M31 q31 => ?_)
      obtain ⟨rfl, rfl⟩ := q31
      refine zb_if_ne (pc := 34) (tgt := 40) E dX8_read_34 (by decide) (fun h34 => ?_) (fun h34 => ?_)
      · rw [zp_w_0 (by decide)] at h34
        obtain ⟨a, hxa, hza, han, ha9, ha31⟩ := zs_row_of h13 (by decide)
        obtain ⟨d, hyd, hzd, hdn, hd12⟩ := zs_row_ofL h24 (by decide)
        obtain ⟨u, hu, hwu⟩ := zp_in_of h34 (by decide)
        have hdl := zok_len hzd
        have hsp : sp_read S x y w = zrdw (zrd S (zr a) (zr d)) (zd d).length u := by
          unfold sp_read
          rw [if_pos (by rw [h13, h24, h34]; rfl), ← han, ← hdn, hwu, nI_nat (by omega), zr_len]
        have hdg : zo (zs_dg y 3) = nI (zd d).length := by rw [hyd]; exact zdg_ok hzd (by omega)
        have hle := zrd_le S (zr d) (zr a)
        rw [zr_len] at hle
        refine zz_aload_n (pc := 40) E dX8_read_40 rfl ?_
        refine zz_iload_n (pc := 41) E dX8_read_41 rfl ?_
        refine zz_eqi (y := nI a) hxa ?_
        refine zz_lload_n (pc := 42) E dX8_read_42 rfl ?_
        refine zz_eql (y := lN d) hyd ?_
        refine zz_iload (pc := 43) E dX8_read_43 rfl ?_
        refine zz_eqi (y := nI (zd d).length) hdg ?_
        refine zz_ciV (pc := 45) E 100 (kkX8_readMany l G hJ _  S a d hV hS hza hzd) (cwV 3 hts gX8_read_X8_readMany rfl rfl rfl (by decide +kernel) ⟨Nat.le_of_ble_eq_true rfl, Nat.le_of_ble_eq_true rfl⟩) (by decide) rfl rfl rfl rfl (Nat.le_of_ble_eq_true rfl) dX8_read_45 (fun r45 M45 q45 => ?_)
        obtain ⟨f45, rfl, w45⟩ := q45
        refine zz_istore (pc := 48) (lv' := [(0, _), (1, _), (2, _), (4, _), (5, _), (6, _)]) E dX8_read_48 (by decide) rfl ?_
        have hI2 := zJ_mf hI f45 (by decide) (by decide)
        have hlo := zmf_hi f45 (by decide)
        have hwl := w45.2.1
        refine zz_iload (pc := 50) E dX8_read_50 rfl ?_
        refine zz_eqi (y := nI u) hwu ?_
        obtain rfl | rfl | rfl | rfl : u = 0 ∨ u = 1 ∨ u = 2 ∨ u = 3 := by omega
        · refine zz_tableIn (tgt := 80) E dX8_read_52 (by decide) (by decide) (by rfl) (by decide) ?_
          refine zz_iload (pc := 80) E dX8_read_80 rfl ?_
          exact zz_iret (pc := 82) E hr hlk dX8_read_82 ⟨hlo, hI2, by rw [hsp]; rfl⟩
        · refine zz_tableIn (tgt := 83) E dX8_read_52 (by decide) (by decide) (by rfl) (by decide) ?_
          refine zz_aload_n (pc := 83) E dX8_read_83 rfl ?_
          refine zz_gf (pc := 84) E 100 (by decide) rfl rfl inX8_read_X8 3 (by decide) lkX8_read_72 (fun _ h => h) rfl dX8_read_84 ?_
          exact zz_iret (pc := 87) E hr hlk dX8_read_87 ⟨hlo, hI2, by rw [hsp, w45.1]; rfl⟩
        · refine zz_tableIn (tgt := 88) E dX8_read_52 (by decide) (by decide) (by rfl) (by decide) ?_
          refine zz_aload_n (pc := 88) E dX8_read_88 rfl ?_
          refine zz_gf (pc := 89) E 100 (by decide) rfl rfl inX8_read_X8 3 (by decide) lkX8_read_72 (fun _ h => h) rfl dX8_read_89 ?_
          refine zz_eqi (y := nI (zrd S (zr a) (zr d)).2.length) w45.1 ?_
          refine zn_if_ne (pc := 92) (tgt := 100) E dX8_read_92 (by decide) (by omega) (fun h92 => ?_) (fun h92 => ?_)
          · refine zz_aload_n (pc := 100) E dX8_read_100 rfl ?_
            refine zz_gf (pc := 101) E 100 (by decide) rfl rfl inX8_read_X8 4 (by decide) lkX8_read_16 (fun _ h => h) rfl dX8_read_101 ?_
            refine zz_aload_n (pc := 104) E dX8_read_104 rfl ?_
            refine zz_gf (pc := 105) E 100 (by decide) rfl rfl inX8_read_X8 3 (by decide) lkX8_read_72 (fun _ h => h) rfl dX8_read_105 ?_
            refine zz_eqi (y := nI (zrd S (zr a) (zr d)).2.length) w45.1 ?_
            refine zz_iconst (pc := 108) (v := nI 1) E dX8_read_108 (by decide) ?_
            refine zn_isub (pc := 109) E dX8_read_109 (by omega) ?_
            refine zz_iald (pc := 110) E 103 ((zrd S (zr a) (zr d)).2.length - 1) (n := 64) (by decide) rfl rfl (by omega) (by decide) dX8_read_110 ?_
            exact zz_iret (pc := 111) E hr hlk dX8_read_111 ⟨hlo, hI2, by rw [hsp]; show _ = zo ((zrd S (zr a) (zr d)).2[0]?); exact zS_at (i := 0) w45.2.2.1 (by omega)⟩
          · have hnil : (zrd S (zr a) (zr d)).2 = [] := List.length_eq_zero_iff.mp h92
            have hrd : zrdw (zrd S (zr a) (zr d)) (zd d).length 2 = -9 := by show zo ((zrd S (zr a) (zr d)).2[0]?) = -9; rw [hnil]; rfl
            refine zz_bipush (pc := 95) (v := -9) E dX8_read_95 (by decide) ?_
            refine zz_goto (pc := 97) (tgt := 111) E dX8_read_97 (by decide) ?_
            exact zz_iret (pc := 111) E hr hlk dX8_read_111 ⟨hlo, hI2, by rw [hsp, hrd]⟩
        · refine zz_tableOut (tgt := 112) E dX8_read_52 (by decide) (by decide) ?_
          refine zz_iload (pc := 112) E dX8_read_112 rfl ?_
          refine zz_iload (pc := 114) E dX8_read_114 rfl ?_
          refine zz_eqi (y := nI (zd d).length) hdg ?_
          refine zn_icmp_ne (pc := 116) (tgt := 130) E dX8_read_116 (by decide) (by omega) (by omega) (fun h116 => ?_) (fun h116 => ?_)
          · have hq : zrdw (zrd S (zr a) (zr d)) (zd d).length 3 = 0 := by show zz_b (decide (_ = _) && _) = 0; rw [decide_eq_false h116]; rfl
            refine zz_iconst (pc := 130) (v := nI 0) E dX8_read_130 (by decide) ?_
            exact zz_iret (pc := 131) E hr hlk dX8_read_131 ⟨hlo, hI2, by rw [hsp, hq]; rfl⟩
          · refine zz_aload_n (pc := 119) E dX8_read_119 rfl ?_
            refine zz_gf (pc := 120) E 100 (by decide) rfl rfl inX8_read_X8 3 (by decide) lkX8_read_72 (fun _ h => h) rfl dX8_read_120 ?_
            refine zz_eqi (y := nI (zrd S (zr a) (zr d)).2.length) w45.1 ?_
            refine zn_if_ne (pc := 123) (tgt := 130) E dX8_read_123 (by decide) (by omega) (fun h123 => ?_) (fun h123 => ?_)
            · have hq : zrdw (zrd S (zr a) (zr d)) (zd d).length 3 = 0 := by show zz_b (_ && decide (_ = _)) = 0; rw [decide_eq_false h123, Bool.and_false]; rfl
              refine zz_iconst (pc := 130) (v := nI 0) E dX8_read_130 (by decide) ?_
              exact zz_iret (pc := 131) E hr hlk dX8_read_131 ⟨hlo, hI2, by rw [hsp, hq]; rfl⟩
            · have hq : zrdw (zrd S (zr a) (zr d)) (zd d).length 3 = 1 := by show zz_b (decide (_ = _) && decide (_ = _)) = 1; rw [decide_eq_true h116, decide_eq_true h123]; rfl
              refine zz_iconst (pc := 126) (v := nI 1) E dX8_read_126 (by decide) ?_
              refine zz_goto (pc := 127) (tgt := 131) E dX8_read_127 (by decide) ?_
              exact zz_iret (pc := 131) E hr hlk dX8_read_131 ⟨hlo, hI2, by rw [hsp, hq]; rfl⟩
      · rw [zp_w_0 (by decide)] at h34
        have hsp : sp_read S x y w = -2 := by unfold sp_read; rw [if_neg (by rw [h34]; simp)]
        refine zz_bipush (pc := 37) (v := -2) E dX8_read_37 (by decide) ?_
        exact zz_iret (pc := 39) E hr hlk dX8_read_39 ⟨zhi_rf _, hI, by rw [hsp]⟩

set_option maxHeartbeats 4000000 in
set_option maxRecDepth 100000 in
theorem kkX8_norm (l : Launch) (G : zz_C) (hJ : zz_J G) (M : zz_M) (S : Nat → Option Nat) (hs : List (Nat → Option Nat)) (x : Int32) (hI : zJ M S hs) : Met l yX8_norm wsX8_norm ({ frames := 4, cells := 0, slots := 0, locals := 96 } : Room) (zz_P G M [.ref (G.2.2 100), .int x]) (zz_Qi G (fun r M1 => zhi M M1 ∧ zJ M1 S hs ∧ r = sp_norm S x)) 0 0 (zz_A G) := by
  refine zz_start hJ (by decide) rfl (Nat.le_of_ble_eq_true rfl) ?_
  intro p e s m below meth c E hr hlk
  have hts := E.2.2.2.2.1
  show zz_Z p l e (headSpec wsX8_norm ({ frames := 4, cells := 0, slots := 0, locals := 96 } : Room)).room s m ([.ref (G.2.2 100), .int x] : List Value).toArray below meth c 0 0 (MQ below (zz_Qi G (fun r M1 => zhi M M1 ∧ zJ M1 S hs ∧ r = sp_norm S x)) ([.ref (G.2.2 100), .int x] : List Value).toArray s 0 0 (zz_A G)) 2 G (zz_A G) M 0 [(0, .ref (G.2.2 100)), (1, .int x)] []
  refine zz_iload_n (pc := 0) E dX8_norm_0 rfl ?_
  refine zz_bipush (pc := 1) (v := nI 9) E dX8_norm_1 (by decide) ?_
  refine zz_ciS (pc := 3) E (kkX8_isRow l G hJ _ _ _ (by decide)) (va_cwS 2 hts gX8_norm_X8_isRow rfl rfl rfl (by decide +kernel) ⟨Nat.le_of_ble_eq_true rfl, Nat.le_of_ble_eq_true rfl⟩) rfl rfl (Nat.le_of_ble_eq_true rfl) dX8_norm_3 (fun r3 M3 q3 => ?_)
  obtain ⟨rfl, rfl⟩ := q3
  refine zb_if_ne (pc := 6) (tgt := 12) E dX8_norm_6 (by decide) (fun h6 => ?_) (fun h6 => ?_)
  · obtain ⟨a, hxa, hza, han, ha9, ha31⟩ := zs_row_of h6 (by decide)
    have hsp : sp_norm S x = zo (znorm (zit S 36) (zr a)) := by unfold sp_norm; rw [if_pos h6, ← han]
    refine zz_aload_n (pc := 12) E dX8_norm_12 rfl ?_
    refine zz_cvV (pc := 13) E 100 (kkX8_findNorms l G hJ _  S hI.1 hI.2.2.1) (cwV 0 hts gX8_norm_X8_findNorms rfl rfl rfl (by decide +kernel) ⟨Nat.le_of_ble_eq_true rfl, Nat.le_of_ble_eq_true rfl⟩) (by decide) rfl rfl rfl rfl (Nat.le_of_ble_eq_true rfl) dX8_norm_13 (fun M13 q13 => ?_)
    obtain ⟨f13, w13⟩ := q13
    refine zz_aload_n (pc := 16) E dX8_norm_16 rfl ?_
    refine zz_iload_n (pc := 17) E dX8_norm_17 rfl ?_
    refine zz_eqi (y := nI a) hxa ?_
    refine zz_ciV (pc := 18) E 100 (kkX8_normOf l G hJ _  (zit S 36) a 9 364 w13 (zit_bd hI.1 36) (by decide) hza (by decide)) (cwV 1 hts gX8_norm_X8_normOf rfl rfl rfl (by decide +kernel) ⟨Nat.le_of_ble_eq_true rfl, Nat.le_of_ble_eq_true rfl⟩) (by decide) rfl rfl rfl rfl (Nat.le_of_ble_eq_true rfl) dX8_norm_18 (fun r18 M18 q18 => ?_)
    obtain ⟨rfl, rfl⟩ := q18
    exact zz_iret (pc := 21) E hr hlk dX8_norm_21 ⟨zfr_hi f13 (by decide), zJ_mf hI (zmf_fr f13 (by decide)) (by decide) (by decide), by rw [hsp]⟩
  · have hsp : sp_norm S x = -2 := by unfold sp_norm; rw [if_neg (by rw [h6]; simp)]
    refine zz_bipush (pc := 9) (v := -2) E dX8_norm_9 (by decide) ?_
    exact zz_iret (pc := 11) E hr hlk dX8_norm_11 ⟨zhi_rf _, hI, by rw [hsp]⟩
